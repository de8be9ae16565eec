/-! the reference: men, draws, counts -/
theorem md_ext {t : Nat → Nat} {n : Nat} (h : ∀ c, n ≤ c → t c = 0) : ∀ k, mdTo t (n + k) = mdTo t n
  | 0 => rfl
  | k + 1 => by
    show (if valO t (mdTo t (n + k)) < t (n + k) then some (n + k) else mdTo t (n + k)) = _
    rw [h (n + k) (by omega), if_neg (by omega), md_ext h k]
theorem md_all {t : Nat → Nat} {n : Nat} (hn : n ≤ 12) (h : ∀ c, n ≤ c → t c = 0) : mdTo t n = mdAll t := by
  rw [mdAll_eq]
  have := md_ext h (12 - n)
  rw [show n + (12 - n) = 12 by omega] at this
  exact this.symm
theorem md_t {t : Nat → Nat} {n : Nat} (h : valO t (mdTo t n) < t n) : mdTo t (n + 1) = some n := if_pos h
theorem md_f {t : Nat → Nat} {n : Nat} (h : ¬ valO t (mdTo t n) < t n) : mdTo t (n + 1) = mdTo t n := if_neg h
theorem cnt_0 {p : Nat → Bool} : ∀ n, (∀ i, i < n → p i = false) → cntTo p n = 0
  | 0, _ => rfl
  | n + 1, h => by rw [cntTo_s, cnt_0 n (fun i hi => h i (by omega)), h n (by omega)]; rfl
theorem dd_st {g : Nat → Option Nat} {l lk : Nat → Nat} {s j k : Nat} (hk : k < j) : ∀ n, j ≤ n → ddF g l lk s n k = ddF g l lk s j k
  | 0, h => absurd h (by omega)
  | n + 1, h => by
    by_cases e : j = n + 1
    · rw [e]
    · show (if k = n then deedN g l lk s (ddF g l lk s n) n else ddF g l lk s n k) = _
      rw [if_neg (by omega)]
      exact dd_st hk n (by omega)
/-- what the man does, told by what all do -/
theorem dd_at {g : Nat → Option Nat} {l lk : Nat → Nat} {s m n : Nat} (h : m < n) : ddF g l lk s n m = if l m < s ∧ lk m = 1 ∧ ¬ mdAll (fun c => cntTo (fun k => decide (ddF g l lk s n k = some c)) m) = none then mdAll (fun c => cntTo (fun k => decide (ddF g l lk s n k = some c)) m) else g m := by
  have e : (fun c => cntTo (fun k => decide (ddF g l lk s n k = some c)) m) = (fun c => cntTo (fun k => decide (ddF g l lk s m k = some c)) m) := funext fun c => cntTo_congr m (fun k hk => by rw [dd_st hk n (by omega)])
  rw [dd_st (show m < m + 1 by omega) n (by omega), e]
  show (if m = m then deedN g l lk s (ddF g l lk s m) m else _) = _
  rw [if_pos rfl]
  rfl
theorem gs_fit {V : Cv} {H : Hv} {e k : Nat} : ∀ n, gsTo V H e n = some k → fitB V H e k = true
  | 0, h => by cases h
  | n + 1, h => by
    unfold gsTo at h
    split at h
    · rename_i z; cases h; exact z.2
    · exact gs_fit n h
theorem gs_ex {V : Cv} {H : Hv} {e c : Nat} (hu : 1 ≤ v_us V c) (hf : fitB V H e c = true) : ∀ n, c < n → gsTo V H e n ≠ none
  | 0, h => absurd h (by omega)
  | n + 1, h => by
    unfold gsTo
    split
    · exact fun z => by cases z
    · rename_i q
      by_cases e9 : c = n
      · subst e9
        intro z
        exact q ⟨by rw [z]; exact hu, hf⟩
      · exact gs_ex hu hf n (by omega)
theorem fit_self {V : Cv} {c e : Nat} : fitB V (hearOf V c e (v_sz V c) true) e c = true := by
  unfold fitB
  have h1 : (hearOf V c e (v_sz V c) true).2.1 = true := rfl
  rw [if_pos h1, decide_eq_true (show v_sz V c = (hearOf V c e (v_sz V c) true).1 from rfl), Bool.true_and]
  refine (allTo_iff _).mpr (fun i hi => ?_)
  show (decide (noteBy V c e i = noteBy V c e i) || _ || _) = true
  rw [decide_eq_true rfl]
  rfl
theorem gV_some {V : Cv} (hv : VOK V) {c m : Nat} (hc : c < v_nc V) : gV V c m ≠ none := gs_ex (hv.us1 hc) fit_self _ hc
theorem lV_is {V : Cv} {c m k : Nat} (h : gV V c m = some k) : likeOf V (hearOf V c (v_eo V m) (v_sz V c) true) (v_eo V m) k = lV V c m := by
  unfold likeOf lV
  rw [if_pos (gs_fit _ h), h]
  rfl
/-- what all do, by the reference -/
def MDo (iv : IV) (b : Nat) (V : Cv) (c n : Nat) : Prop := ∀ m, m < n → iv (b + 41) m = oI (gV V c m) ∧ iv (b + 40) m = oI (dC V c m)
theorem dC_lt {V : Cv} (hv : VOK V) {c : Nat} : ∀ n m, m < n → ∀ k, ddF (gV V c) (lV V c) (v_lk V) (v_su V) n m = some k → k < 12 := fun n m hm k hk => by
  rw [dd_at hm] at hk
  split at hk
  · exact mdAll_lt k hk
  · exact gV_lt hv k hk
theorem bt_t {p : Nat → Bool} {n : Nat} (h : p n = true) : btTo p (n + 1) = btTo p n ||| 2 ^ n := if_pos h
theorem bt_f {p : Nat → Bool} {n : Nat} (h : ¬ p n = true) : btTo p (n + 1) = btTo p n := if_neg h
theorem or_0 (a : Nat) : nI a ||| nI 0 = nI a := by rw [nI_or, Nat.or_zero]
theorem vok_D {V : Cv} {d : Int32} (h : VOK V) : VOK (v_setD V d) := h
theorem xok_D {X : Xs} {d : Int32} (h : XOK X) : XOK (x_sA X (v_setD (x_A X) d)) := ⟨vok_D h.1, h.2.1, h.2.2.1, h.2.2.2.1, h.2.2.2.2⟩
theorem mat_nt {iv : IV} {b : Nat} {V : Cv} {d : Int32} {c i : Nat} (h : MC iv b (v_setD V d)) (hc : c < v_nc V) (hi : i < v_sz V c) : iv (b + 18 + c) i = nI (v_nt V c i) := h.nt (V := v_setD V d) hc hi
theorem mat_sz {iv : IV} {b : Nat} {V : Cv} {d : Int32} {c : Nat} (h : MC iv b (v_setD V d)) (hc : c < v_nc V) : iv (b + 30) c = nI (v_sz V c) := h.sz (V := v_setD V d) hc
theorem mat_lo {iv : IV} {b : Nat} {V : Cv} {d : Int32} (h : MC iv b (v_setD V d)) : iv b 21 = nI (v_lo V) := h.lo
theorem dif_o {V : Cv} {n : Nat} {o o2 : Bool} {f : Nat → Nat} : difV V (n, o, f) = difV V (n, o2, f) := rfl
theorem dif_dy {W : Cv} : difV (dyN W) (v_sz (dyW W) (dyC W), false, sndN (dyW W) (dyC W)) = difV (dyN W) (dyH W) := dif_o (o2 := true)
theorem dyW_ok {W : Cv} (h : VOK W) : VOK (dyW W) := vok_D h
theorem dyN_ok {W : Cv} (h : VOK W) : VOK (dyN W) := vok_D (dyW_ok h)
theorem dy_ok {V : Cv} (h : VOK V) : ∀ j, VOK (dyTo V j).1
  | 0 => h
  | j + 1 => dyN_ok (dy_ok h j)
/-- only the seed has changed -/
def MSd (b : Nat) (iv iv2 : IV) : Prop := ∀ a k, ¬ (a = b ∧ k = 22) → iv2 a k = iv a k
theorem fl_sk {T : Sv} (h : SOK T) : (!decide (T.1 = -1)) = true ↔ ¬ sk T = 0 := by
  have hc := sk_c T
  have h2 := h.2.1
  have e : (-1 : Int32).toInt = -1 := by decide
  constructor
  · intro q z
    have : T.1 = -1 := T_m1 h (by omega) (by omega)
    rw [this] at q
    cases q
  · intro q
    have : ¬ T.1 = -1 := fun z => by
      have z2 : T.1.toInt = -1 := by rw [z]; exact e
      omega
    rw [decide_eq_false this]
    rfl
theorem md_pos {t : Nat → Nat} : ∀ n c, mdTo t n = some c → 0 < t c
  | 0, c, h => by cases h
  | n + 1, c, h => by
    unfold mdTo at h
    split at h
    · cases h; omega
    · exact md_pos n c h
theorem cnt_ex {p : Nat → Bool} : ∀ n, 0 < cntTo p n → ∃ i, i < n ∧ p i = true
  | 0, h => absurd h (by show ¬ 0 < 0; omega)
  | n + 1, h => by
    rw [cntTo_s] at h
    by_cases q : p n = true
    · exact ⟨n, by omega, q⟩
    · rw [if_neg q] at h
      obtain ⟨i, h1, h2⟩ := cnt_ex n h
      exact ⟨i, by omega, h2⟩
noncomputable abbrev dF (V : Cv) (c : Nat) : Nat → Option Nat := ddF (gV V c) (lV V c) (v_lk V) (v_su V) (v_nm V)
theorem dC_nc {V : Cv} {c : Nat} : ∀ m, m < v_nm V → ∀ q, dF V c m = some q → q < v_nc V := by
  intro m
  induction m using Nat.strongRecOn with
  | _ m ih =>
    intro hm q hq
    rw [show dF V c m = _ from dd_at hm] at hq
    split at hq
    · rw [mdAll_eq] at hq
      obtain ⟨k, h1, h2⟩ := cnt_ex m (md_pos 12 q hq)
      exact ih k h1 (by omega) q (of_decide_eq_true h2)
    · exact gsTo_lt _ hq
theorem mdo_s {iv : IV} {b c j : Nat} {V : Cv} {x y z1 z2 : Int32} (hD : MDo iv b V c j) (hx : x = oI (gV V c j)) (hy : y = oI (dF V c j)) : MDo (up2 (up2 (up2 (up2 iv b 33 z1) b 34 z2) (b + 41) j x) (b + 40) j y) b V c (j + 1) := fun k hk => by
  by_cases e : k = j
  · subst e; exact ⟨(up2_ne (by omega)).trans (up2_s.trans hx), up2_s.trans hy⟩
  · have h := hD k (by omega)
    exact ⟨(up2_ne (by omega)).trans ((up2_k e).trans ((up2_ne (by omega)).trans ((up2_ne (by omega)).trans h.1))), (up2_k e).trans ((up2_ne (by omega)).trans ((up2_ne (by omega)).trans ((up2_ne (by omega)).trans h.2)))⟩
theorem ld_f {o : Option Nat} {c : Nat} (h : o = none ∨ o = some c) : (!decide (o = none) && !decide (o = some c)) = false := by
  rcases h with h | h
  · rw [decide_eq_true h]; rfl
  · rw [decide_eq_true h, Bool.not_true, Bool.and_false]
theorem ld_t {o : Option Nat} {c : Nat} (h : ¬ o = none) (h2 : ¬ o = some c) : (!decide (o = none) && !decide (o = some c)) = true := by rw [decide_eq_false h, decide_eq_false h2]; rfl
theorem nd_t {a c : Option Nat} (h : ¬ a = c) : (!decide (a = c)) = true := by rw [decide_eq_false h]; rfl
theorem nd_f {a c : Option Nat} (h : a = c) : ¬ (!decide (a = c)) = true := by rw [decide_eq_true h]; decide
theorem snd_t {V : Cv} {c i : Nat} (h : ¬ v_lo V ≤ drw (sdAt (v_se V) i) % 100) : lN 9 = lN (sndN V c i) := by unfold sndN; rw [if_pos (goneB_t h)]
theorem snd_f {V : Cv} {c i : Nat} (h : v_lo V ≤ drw (sdAt (v_se V) i) % 100) : lN (v_nt V c i) = lN (sndN V c i) := by unfold sndN; rw [goneB_f h]; rfl
theorem snd_9 {V : Cv} (hv : VOK V) {c i : Nat} (hc : c < v_nc V) (hi : i < v_sz V c) : sndN V c i ≤ 9 := by
  have := hv.nt hc hi
  unfold sndN
  split <;> omega
set_option maxRecDepth 20000 in
theorem r_mostDo {g : Ev} {S : St} {iv : IV} {lw : LW} {b : Nat} (hb : IsMod S b) {V : Cv} (hV : MC iv b V) (hv : VOK V) {m : Nat} {f : Nat → Option Nat} (hD : ∀ k, k < m → iv (b + 40) k = oI (f k)) (hm : m ≤ 8) (hf : ∀ k, k < m → ∀ c, f k = some c → c < v_nc V) : CP g mX10_mostDo [.ref (b), .int (nI m)] S iv lw (.int (oI (mdAll (fun c => cntTo (fun k => decide (f k = some c)) m)))) := by
  refine CT_ofQ rfl (by decide) (Nat.le_of_ble_eq_true rfl) (lv := [(0, .ref (b)), (1, .int (nI m))]) rfl (fun Q hQ => ?_)
  have hnc := hv.nc
  have hne := hv.ne
  have hnm := hv.nm
  have ht8 : ∀ c, (fun c => cntTo (fun k => decide (f k = some c)) m) c ≤ 8 := fun c => Nat.le_trans (cntTo_le _ _) hm
  refine V_iconst (v := (-1)) dX10_mostDo_0 rfl ?_
  refine V_istore_n (lv2 := [(2, .int ((-1))), (0, .ref (b)), (1, .int (nI m))]) dX10_mostDo_1 rfl (by decide) rfl ?_
  refine V_iconst (v := nI 0) dX10_mostDo_2 rfl ?_
  refine V_istore_n (lv2 := [(3, .int (nI 0)), (2, .int ((-1))), (0, .ref (b)), (1, .int (nI m))]) dX10_mostDo_3 rfl (by decide) rfl ?_
  refine V_iconst (v := nI 0) dX10_mostDo_4 rfl ?_
  refine V_istore (lv2 := [(4, .int (nI 0)), (3, .int (nI 0)), (2, .int ((-1))), (0, .ref (b)), (1, .int (nI m))]) dX10_mostDo_5 (by decide) rfl ?_
  have lp7 : ∀ j, j ≤ (v_nc V) → VM g mX10_mostDo 7 [(4, .int (nI j)), (3, .int (nI (valO (fun c => cntTo (fun k => decide (f k = some c)) m) (mdTo (fun c => cntTo (fun k => decide (f k = some c)) m) j)))), (2, .int (oI (mdTo (fun c => cntTo (fun k => decide (f k = some c)) m) j))), (0, .ref (b)), (1, .int (nI m))] [] S iv lw Q := by
    refine up_ind fun j hj ih7 => ?_
    have hvl := md_val (t := (fun c => cntTo (fun k => decide (f k = some c)) m)) (M := 8) (fun c _ => ht8 c) j (by omega)
    refine V_iload dX10_mostDo_7 0 rfl ?_
    refine V_aload_n (i := 0) dX10_mostDo_9 rfl 3 rfl ?_
    refine M_getI (x := nI (v_nc V)) dX10_mostDo_10 lf_X10_88 rfl hb.1 (hV.nc) ?_
    refine V_icmp_ge (tgt := 74) dX10_mostDo_13 rfl (fun h13 => ?_) (fun h13 => ?_)
    · have h13 : (v_nc V) ≤ j := (nI_leI (by omega) (by omega)).mp h13
      refine V_iload_n (i := 2) dX10_mostDo_74 rfl 2 rfl ?_
      refine V_iret dX10_mostDo_75 ⟨rfl, rfl⟩ (Nat.zero_le _) (Nat.zero_le _) ?_
      subst hQ
      obtain rfl : j = v_nc V := by omega
      exact ⟨by rw [md_all hnc (fun c hc => cnt_0 m (fun k hk => decide_eq_false (fun z => by have := hf k hk c z; omega)))], rfl⟩
    · have h13 : ¬ (v_nc V) ≤ j := fun q => h13 ((nI_leI (by omega) (by omega)).mpr q)
      refine V_iconst (v := nI 0) dX10_mostDo_16 rfl ?_
      refine V_istore (lv2 := [(5, .int (nI 0)), (4, .int (nI j)), (3, .int (nI (valO (fun c => cntTo (fun k => decide (f k = some c)) m) (mdTo (fun c => cntTo (fun k => decide (f k = some c)) m) j)))), (2, .int (oI (mdTo (fun c => cntTo (fun k => decide (f k = some c)) m) j))), (0, .ref (b)), (1, .int (nI m))]) dX10_mostDo_17 (by decide) rfl ?_
      refine V_iconst (v := nI 0) dX10_mostDo_19 rfl ?_
      refine V_istore (lv2 := [(6, .int (nI 0)), (5, .int (nI 0)), (4, .int (nI j)), (3, .int (nI (valO (fun c => cntTo (fun k => decide (f k = some c)) m) (mdTo (fun c => cntTo (fun k => decide (f k = some c)) m) j)))), (2, .int (oI (mdTo (fun c => cntTo (fun k => decide (f k = some c)) m) j))), (0, .ref (b)), (1, .int (nI m))]) dX10_mostDo_20 (by decide) rfl ?_
      have lp22 : ∀ i, i ≤ m → VM g mX10_mostDo 22 [(6, .int (nI i)), (5, .int (nI (cntTo (fun k => decide (f k = some j)) i))), (4, .int (nI j)), (3, .int (nI (valO (fun c => cntTo (fun k => decide (f k = some c)) m) (mdTo (fun c => cntTo (fun k => decide (f k = some c)) m) j)))), (2, .int (oI (mdTo (fun c => cntTo (fun k => decide (f k = some c)) m) j))), (0, .ref (b)), (1, .int (nI m))] [] S iv lw Q := by
        refine up_ind fun i hi ihi => ?_
        refine V_iload dX10_mostDo_22 0 rfl ?_
        refine V_iload_n (i := 1) dX10_mostDo_24 rfl 6 rfl ?_
        refine V_icmp_ge (tgt := 56) dX10_mostDo_25 rfl (fun h25 => ?_) (fun h25 => ?_)
        · have h25 : m ≤ i := (nI_leI (by omega) (by omega)).mp h25
          have hi9 : i = m := by omega
          have ht9 := ht8 j
          refine M_at (lv2 := [(6, .int (nI i)), (5, .int (nI ((fun c => cntTo (fun k => decide (f k = some c)) m) j))), (4, .int (nI j)), (3, .int (nI (valO (fun c => cntTo (fun k => decide (f k = some c)) m) (mdTo (fun c => cntTo (fun k => decide (f k = some c)) m) j)))), (2, .int (oI (mdTo (fun c => cntTo (fun k => decide (f k = some c)) m) j))), (0, .ref (b)), (1, .int (nI m))]) (st2 := []) ?_ (by rw [hi9]) rfl rfl rfl
          refine V_iload dX10_mostDo_56 1 rfl ?_
          refine V_iload_n (i := 3) dX10_mostDo_58 rfl 3 rfl ?_
          refine V_icmp_le (tgt := 68) dX10_mostDo_59 rfl (fun h59 => ?_) (fun h59 => ?_)
          · have h59 : ((fun c => cntTo (fun k => decide (f k = some c)) m) j) ≤ (valO (fun c => cntTo (fun k => decide (f k = some c)) m) (mdTo (fun c => cntTo (fun k => decide (f k = some c)) m) j)) := (nI_leI (by omega) (by omega)).mp h59
            have h59 : ¬ valO (fun c => cntTo (fun k => decide (f k = some c)) m) (mdTo (fun c => cntTo (fun k => decide (f k = some c)) m) j) < (fun c => cntTo (fun k => decide (f k = some c)) m) j := by omega
            refine V_iinc (v := nI (j + 1)) (lv2 := [(4, .int (nI (j + 1))), (6, .int (nI i)), (5, .int (nI ((fun c => cntTo (fun k => decide (f k = some c)) m) j))), (3, .int (nI (valO (fun c => cntTo (fun k => decide (f k = some c)) m) (mdTo (fun c => cntTo (fun k => decide (f k = some c)) m) j)))), (2, .int (oI (mdTo (fun c => cntTo (fun k => decide (f k = some c)) m) j))), (0, .ref (b)), (1, .int (nI m))]) dX10_mostDo_68 2 rfl (nI_inc _) (by decide) rfl ?_
            refine V_goto (tgt := 7) dX10_mostDo_71 rfl ?_
            refine V_sub [0, 3, 4, 5, 6] rfl ?_
            exact M_at (ih7 (by omega)) (by rw [md_f (t := (fun c => cntTo (fun k => decide (f k = some c)) m)) (n := j) h59]; try rfl) rfl (rfl) (rfl)
          · have h59 : ¬ ((fun c => cntTo (fun k => decide (f k = some c)) m) j) ≤ (valO (fun c => cntTo (fun k => decide (f k = some c)) m) (mdTo (fun c => cntTo (fun k => decide (f k = some c)) m) j)) := fun q => h59 ((nI_leI (by omega) (by omega)).mpr q)
            refine V_iload dX10_mostDo_62 2 rfl ?_
            refine V_istore_n (lv2 := [(2, .int (nI j)), (6, .int (nI i)), (5, .int (nI ((fun c => cntTo (fun k => decide (f k = some c)) m) j))), (4, .int (nI j)), (3, .int (nI (valO (fun c => cntTo (fun k => decide (f k = some c)) m) (mdTo (fun c => cntTo (fun k => decide (f k = some c)) m) j)))), (0, .ref (b)), (1, .int (nI m))]) dX10_mostDo_64 rfl (by decide) rfl ?_
            refine V_iload dX10_mostDo_65 2 rfl ?_
            refine V_istore_n (lv2 := [(3, .int (nI ((fun c => cntTo (fun k => decide (f k = some c)) m) j))), (2, .int (nI j)), (6, .int (nI i)), (5, .int (nI ((fun c => cntTo (fun k => decide (f k = some c)) m) j))), (4, .int (nI j)), (0, .ref (b)), (1, .int (nI m))]) dX10_mostDo_67 rfl (by decide) rfl ?_
            refine V_iinc (v := nI (j + 1)) (lv2 := [(4, .int (nI (j + 1))), (3, .int (nI ((fun c => cntTo (fun k => decide (f k = some c)) m) j))), (2, .int (nI j)), (6, .int (nI i)), (5, .int (nI ((fun c => cntTo (fun k => decide (f k = some c)) m) j))), (0, .ref (b)), (1, .int (nI m))]) dX10_mostDo_68 4 rfl (nI_inc _) (by decide) rfl ?_
            refine V_goto (tgt := 7) dX10_mostDo_71 rfl ?_
            refine V_sub [0, 1, 2, 5, 6] rfl ?_
            exact M_at (ih7 (by omega)) (by rw [md_t (t := (fun c => cntTo (fun k => decide (f k = some c)) m)) (n := j) (Nat.lt_of_not_le h59)]; rfl) rfl (rfl) (rfl)
        · have h25 : ¬ m ≤ i := fun q => h25 ((nI_leI (by omega) (by omega)).mpr q)
          refine V_iload dX10_mostDo_28 1 rfl ?_
          refine V_aload_n (i := 0) dX10_mostDo_30 rfl 5 rfl ?_
          refine M_getR dX10_mostDo_31 lf_X10_82 rfl hb.1 hb.2.2.2.2.2.2.2.2.2.2.2.2.2.2.2.2.2.2.2.2.1.1 ?_
          refine V_iload dX10_mostDo_34 0 rfl ?_
          refine M_ialdn (j := i) (x := oI (f i)) dX10_mostDo_36 hb.2.2.2.2.2.2.2.2.2.2.2.2.2.2.2.2.2.2.2.2.1.2 (by decide) (by omega) (hD i (by omega)) ?_
          refine V_iload dX10_mostDo_37 2 rfl ?_
          refine V_icmp_ne (tgt := 46) dX10_mostDo_39 rfl (fun h39 => ?_) (fun h39 => ?_)
          · have h39 : ¬ f i = some j := fun z => h39 ((oI_eq (hf i (by omega)) (by omega) (by omega)).mpr z).symm
            refine V_iconst (v := nI 0) dX10_mostDo_46 rfl ?_
            refine V_iadd dX10_mostDo_47 ?_
            refine M_top (nI_add _ _) ?_
            refine V_istore (lv2 := [(5, .int (nI ((cntTo (fun k => decide (f k = some j)) i) + 0))), (6, .int (nI i)), (4, .int (nI j)), (3, .int (nI (valO (fun c => cntTo (fun k => decide (f k = some c)) m) (mdTo (fun c => cntTo (fun k => decide (f k = some c)) m) j)))), (2, .int (oI (mdTo (fun c => cntTo (fun k => decide (f k = some c)) m) j))), (0, .ref (b)), (1, .int (nI m))]) dX10_mostDo_48 (by decide) rfl ?_
            refine V_iinc (v := nI (i + 1)) (lv2 := [(6, .int (nI (i + 1))), (5, .int (nI ((cntTo (fun k => decide (f k = some j)) i) + 0))), (4, .int (nI j)), (3, .int (nI (valO (fun c => cntTo (fun k => decide (f k = some c)) m) (mdTo (fun c => cntTo (fun k => decide (f k = some c)) m) j)))), (2, .int (oI (mdTo (fun c => cntTo (fun k => decide (f k = some c)) m) j))), (0, .ref (b)), (1, .int (nI m))]) dX10_mostDo_50 1 rfl (nI_inc _) (by decide) rfl ?_
            refine V_goto (tgt := 22) dX10_mostDo_53 rfl ?_
            refine V_sub [0, 1, 2, 3, 4, 5, 6] rfl ?_
            exact M_at (ihi (by omega)) (by rw [cntTo_f (decide_eq_false h39)]; rfl) rfl (rfl) (rfl)
          · have h39 := (oI_eq (hf i (by omega)) (by omega) (by omega)).mp h39.symm
            refine V_iconst (v := nI 1) dX10_mostDo_42 rfl ?_
            refine V_goto (tgt := 47) dX10_mostDo_43 rfl ?_
            refine V_iadd dX10_mostDo_47 ?_
            refine M_top (nI_add _ _) ?_
            refine V_istore (lv2 := [(5, .int (nI ((cntTo (fun k => decide (f k = some j)) i) + 1))), (6, .int (nI i)), (4, .int (nI j)), (3, .int (nI (valO (fun c => cntTo (fun k => decide (f k = some c)) m) (mdTo (fun c => cntTo (fun k => decide (f k = some c)) m) j)))), (2, .int (oI (mdTo (fun c => cntTo (fun k => decide (f k = some c)) m) j))), (0, .ref (b)), (1, .int (nI m))]) dX10_mostDo_48 (by decide) rfl ?_
            refine V_iinc (v := nI (i + 1)) (lv2 := [(6, .int (nI (i + 1))), (5, .int (nI ((cntTo (fun k => decide (f k = some j)) i) + 1))), (4, .int (nI j)), (3, .int (nI (valO (fun c => cntTo (fun k => decide (f k = some c)) m) (mdTo (fun c => cntTo (fun k => decide (f k = some c)) m) j)))), (2, .int (oI (mdTo (fun c => cntTo (fun k => decide (f k = some c)) m) j))), (0, .ref (b)), (1, .int (nI m))]) dX10_mostDo_50 1 rfl (nI_inc _) (by decide) rfl ?_
            refine V_goto (tgt := 22) dX10_mostDo_53 rfl ?_
            refine V_sub [0, 1, 2, 3, 4, 5, 6] rfl ?_
            exact M_at (ihi (by omega)) (by rw [cntTo_t (decide_eq_true h39)]; rfl) rfl (rfl) (rfl)
      refine V_sub [0, 1, 2, 3, 4, 5, 6] rfl ?_
      exact M_at (lp22 0 (Nat.zero_le _)) (rfl) rfl (rfl) (rfl)
  refine V_sub [0, 1, 2, 3, 4] rfl ?_
  exact M_at (lp7 0 (Nat.zero_le _)) (rfl) rfl (rfl) (rfl)
set_option maxRecDepth 20000 in
theorem r_hearsOf2 {g : Ev} {S : St} {iv : IV} {lw : LW} {b : Nat} (hb : IsMod S b) {V : Cv} (hV : MC iv b V) (hv : VOK V) {c e m : Nat} (hc : c < v_nc V) (he : e < v_ne V) (hm : m ≤ v_sz V c) {z : Int32} {o : Bool} (hz : z = bI (o = true)) : CN g mX10_hearsOf [.ref (b), .int (nI c), .int (nI e), .int (nI m), .int (z)] S iv lw (fun iv2 lw2 => iv2 = (up2 (up2 iv b 33 (nI m)) b 34 z) ∧ MA b iv iv2 ∧ MH iv2 lw2 b (hearOf V c e m o) ∧ Off (b + 38) 1 lw lw2) := by
  refine CT_ofQ rfl (by decide) (Nat.le_of_ble_eq_true rfl) (lv := [(0, .ref (b)), (1, .int (nI c)), (2, .int (nI e)), (3, .int (nI m)), (4, .int (z))]) rfl (fun Q hQ => ?_)
  have hnc := hv.nc
  have hne := hv.ne
  have hnm := hv.nm
  have hs8 := hv.sz hc
  have hMA : MA b iv (up2 (up2 iv b 33 (nI m)) b 34 z) := (MA.rf.up (by omega)).up (by omega)
  have hV2 := hV.ma hv hMA
  refine V_aload_n (i := 0) dX10_hearsOf_0 rfl 0 rfl ?_
  refine V_iload_n (i := 3) dX10_hearsOf_1 rfl 3 rfl ?_
  refine M_putI dX10_hearsOf_2 lf_X10_262 rfl hb.1 ⟨rfl, rfl⟩ ?_
  refine V_aload_n (i := 0) dX10_hearsOf_5 rfl 0 rfl ?_
  refine V_iload dX10_hearsOf_6 4 rfl ?_
  refine M_putI dX10_hearsOf_8 lf_X10_258 rfl hb.1 (zfit hz) ?_
  refine V_iconst (v := nI 0) dX10_hearsOf_11 rfl ?_
  refine V_istore (lv2 := [(5, .int (nI 0)), (0, .ref (b)), (1, .int (nI c)), (2, .int (nI e)), (3, .int (nI m)), (4, .int (z))]) dX10_hearsOf_12 (by decide) rfl ?_
  have lp14 : ∀ i, i ≤ m → ∀ lw2 : LW, (∀ k, k < i → lw2 (b + 38) k = lN (noteBy V c e k)) → Off (b + 38) 1 lw lw2 → VM g mX10_hearsOf 14 [(5, .int (nI i)), (0, .ref (b)), (1, .int (nI c)), (2, .int (nI e)), (3, .int (nI m))] [] S (up2 (up2 iv b 33 (nI m)) b 34 z) lw2 Q := by
    refine up_ind fun i hi ih14 => ?_
    intro lw2 hrow hL
    refine V_iload dX10_hearsOf_14 0 rfl ?_
    refine V_iload_n (i := 3) dX10_hearsOf_16 rfl 4 rfl ?_
    refine V_icmp_ge (tgt := 42) dX10_hearsOf_17 rfl (fun h17 => ?_) (fun h17 => ?_)
    · have h17 : m ≤ i := (nI_leI (by omega) (by omega)).mp h17
      refine V_vret dX10_hearsOf_42 ⟨rfl, rfl⟩ (Nat.zero_le _) (Nat.zero_le _) ?_
      subst hQ
      obtain rfl : i = m := by omega
      exact ⟨_, _, rfl, rfl, rfl, hMA, ⟨⟨by show i ≤ 8; omega, fun k hk => noteBy_le hv hc (by have : k < i := hk; omega)⟩, (up2_k (by decide)).trans up2_s, up2_s.trans hz, hrow⟩, hL⟩
    · have h17 : ¬ m ≤ i := fun q => h17 ((nI_leI (by omega) (by omega)).mpr q)
      refine V_aload_n (i := 0) dX10_hearsOf_20 rfl 1 rfl ?_
      refine M_getR dX10_hearsOf_21 lf_X10_76 rfl hb.1 hb.2.2.2.2.2.2.2.2.2.2.2.2.2.2.2.2.2.2.1.1 ?_
      refine V_iload dX10_hearsOf_24 0 rfl ?_
      refine V_aload_n (i := 0) dX10_hearsOf_26 rfl 1 rfl ?_
      refine V_iload_n (i := 1) dX10_hearsOf_27 rfl 2 rfl ?_
      refine V_iload_n (i := 2) dX10_hearsOf_28 rfl 3 rfl ?_
      refine V_iload dX10_hearsOf_29 0 rfl ?_
      refine M_callVp (As := [.int (nI c), .int (nI e), .int (nI i)]) (st := [.int (nI i), .ref (b + 38)]) dX10_hearsOf_31 lv_X10_254 ⟨by decide, by decide⟩ ⟨rfl, rfl⟩ rfl (ci := 7) hb.1 rfl rfl (Nat.le_of_ble_eq_true rfl) (r_hears hb hV2 hv hc he (i := i) (by omega)) ?_
      refine V_i2l dX10_hearsOf_34 ?_
      refine M_lastn (j := i) dX10_hearsOf_35 hb.2.2.2.2.2.2.2.2.2.2.2.2.2.2.2.2.2.2.1.2 (by decide) (by omega) ?_
      refine V_iinc (v := nI (i + 1)) (lv2 := [(5, .int (nI (i + 1))), (0, .ref (b)), (1, .int (nI c)), (2, .int (nI e)), (3, .int (nI m))]) dX10_hearsOf_36 0 rfl (nI_inc _) (by decide) rfl ?_
      refine V_goto (tgt := 14) dX10_hearsOf_39 rfl ?_
      have he5 : (nI (noteBy V c e i)).toInt64 = lN (noteBy V c e i) := by have := noteBy_le (e := e) hv hc (i := i) (by omega); exact n64 (by omega)
      refine V_sub [0, 1, 2, 3, 4] rfl ?_
      exact M_at (ih14 (by omega) _ (rowAddL (f := fun k => lN (noteBy V c e k)) hrow he5) (hL.up (by omega) (by omega))) (rfl) rfl (rfl) (rfl)
  refine V_sub [0, 1, 2, 3, 4] rfl ?_
  exact M_at (lp14 0 (Nat.zero_le _) lw (fun k hk => absurd hk (by omega)) Off.rf) (rfl) rfl (rfl) (rfl)
set_option maxRecDepth 20000 in
theorem r_goes {g : Ev} {S : St} {iv : IV} {lw : LW} {b : Nat} (hb : IsMod S b) {V : Cv} (hV : MC iv b V) (hv : VOK V) {c : Nat} (hc : c < v_nc V) : CN g mX10_goes [.ref (b), .int (nI c)] S iv lw (fun iv2 lw2 => MA b iv iv2 ∧ Off (b + 38) 1 lw lw2 ∧ MDo iv2 b V c (v_nm V)) := by
  refine CT_ofQ rfl (by decide) (Nat.le_of_ble_eq_true rfl) (lv := [(0, .ref (b)), (1, .int (nI c))]) rfl (fun Q hQ => ?_)
  have hnc := hv.nc
  have hne := hv.ne
  have hnm := hv.nm
  have hs8 := hv.sz hc
  have hsu := hv.su
  refine V_iconst (v := nI 0) dX10_goes_0 rfl ?_
  refine V_istore_n (lv2 := [(2, .int (nI 0)), (0, .ref (b)), (1, .int (nI c))]) dX10_goes_1 rfl (by decide) rfl ?_
  have lp2 : ∀ j, j ≤ (v_nm V) → ∀ (iv2 : IV) (lw2 : LW), MA b iv iv2 → Off (b + 38) 1 lw lw2 → MDo iv2 b V c j → VM g mX10_goes 2 [(2, .int (nI j)), (0, .ref (b)), (1, .int (nI c))] [] S iv2 lw2 Q := by
    refine up_ind fun j hj ih2 => ?_
    intro iv2 lw2 hM hL hD
    have hV2 := hV.ma hv hM
    refine V_iload_n (i := 2) dX10_goes_2 rfl 0 rfl ?_
    refine V_aload_n (i := 0) dX10_goes_3 rfl 1 rfl ?_
    refine M_getI (x := nI (v_nm V)) dX10_goes_4 lf_X10_98 rfl hb.1 (hV2.nm) ?_
    refine V_icmp_ge (tgt := 136) dX10_goes_7 rfl (fun h7 => ?_) (fun h7 => ?_)
    · have h7 : (v_nm V) ≤ j := (nI_leI (by omega) (by omega)).mp h7
      refine V_vret dX10_goes_136 ⟨rfl, rfl⟩ (Nat.zero_le _) (Nat.zero_le _) ?_
      subst hQ
      obtain rfl : j = v_nm V := by omega
      exact ⟨_, _, rfl, rfl, hM, hL, hD⟩
    · have h7 : ¬ (v_nm V) ≤ j := fun q => h7 ((nI_leI (by omega) (by omega)).mpr q)
      refine V_aload_n (i := 0) dX10_goes_10 rfl 1 rfl ?_
      refine V_iload_n (i := 1) dX10_goes_11 rfl 2 rfl ?_
      refine V_aload_n (i := 0) dX10_goes_12 rfl 1 rfl ?_
      refine M_getR dX10_goes_13 lf_X10_57 rfl hb.1 hb.2.2.2.2.2.2.2.2.2.2.2.2.2.2.2.1.1 ?_
      refine V_iload_n (i := 2) dX10_goes_16 rfl 0 rfl ?_
      refine M_ialdn (j := j) (x := nI (v_eo V j)) dX10_goes_17 hb.2.2.2.2.2.2.2.2.2.2.2.2.2.2.2.1.2 (by decide) (by omega) (hV2.eo (m := j) (by omega)) ?_
      refine V_aload_n (i := 0) dX10_goes_18 rfl 1 rfl ?_
      refine M_getR dX10_goes_19 lf_X10_42 rfl hb.1 hb.2.2.2.2.2.2.2.2.2.2.1.1 ?_
      refine V_iload_n (i := 1) dX10_goes_22 rfl 2 rfl ?_
      refine M_ialdn (j := c) (x := nI (v_sz V c)) dX10_goes_23 hb.2.2.2.2.2.2.2.2.2.2.1.2 (by decide) (by omega) (hV2.sz (c := c) (by omega)) ?_
      refine V_iconst (v := nI 1) dX10_goes_24 rfl ?_
      have hel := hv.eo (m := j) (by omega)
      refine M_callVn (As := [.int (nI c), .int (nI (v_eo V j)), .int (nI (v_sz V c)), .int (nI 1)]) (st := []) dX10_goes_25 lv_X10_285 ⟨by decide, by decide⟩ ⟨rfl, rfl⟩ rfl (ci := 7) hb.1 rfl rfl (Nat.le_of_ble_eq_true rfl) (r_hearsOf2 hb hV2 hv hc (e := v_eo V j) hel (m := v_sz V c) (Nat.le_refl _) (o := true) rfl) (fun iv25 lw25 q25 => ?_)
      obtain ⟨rfl, a1, hH, a2⟩ := q25
      have hM25 := hM.tr a1
      have hV25 := hV.ma hv hM25
      refine V_aload_n (i := 0) dX10_goes_28 rfl 1 rfl ?_
      refine M_getR dX10_goes_29 lf_X10_85 rfl hb.1 hb.2.2.2.2.2.2.2.2.2.2.2.2.2.2.2.2.2.2.2.2.2.1.1 ?_
      refine V_iload_n (i := 2) dX10_goes_32 rfl 0 rfl ?_
      refine V_aload_n (i := 0) dX10_goes_33 rfl 1 rfl ?_
      refine V_aload_n (i := 0) dX10_goes_34 rfl 1 rfl ?_
      refine M_getR dX10_goes_35 lf_X10_57 rfl hb.1 hb.2.2.2.2.2.2.2.2.2.2.2.2.2.2.2.1.1 ?_
      refine V_iload_n (i := 2) dX10_goes_38 rfl 0 rfl ?_
      refine M_ialdn (j := j) (x := nI (v_eo V j)) dX10_goes_39 hb.2.2.2.2.2.2.2.2.2.2.2.2.2.2.2.1.2 (by decide) (by omega) (hV25.eo (m := j) (by omega)) ?_
      refine M_callVp (As := [.int (nI (v_eo V j))]) (st := [.int (nI j), .ref (b + 41)]) dX10_goes_40 lv_X10_279 ⟨by decide, by decide⟩ ⟨rfl, rfl⟩ rfl (ci := 7) hb.1 rfl rfl (Nat.le_of_ble_eq_true rfl) (r_guessOf hb hV25 hv hH (e := v_eo V j) hel) ?_
      refine M_iastn (j := j) dX10_goes_43 hb.2.2.2.2.2.2.2.2.2.2.2.2.2.2.2.2.2.2.2.2.2.1.2 (by decide) (by omega) ?_
      refine V_aload_n (i := 0) dX10_goes_44 rfl 1 rfl ?_
      refine M_getR dX10_goes_45 lf_X10_85 rfl hb.1 hb.2.2.2.2.2.2.2.2.2.2.2.2.2.2.2.2.2.2.2.2.2.1.1 ?_
      refine V_iload_n (i := 2) dX10_goes_48 rfl 0 rfl ?_
      refine M_ialdn (j := j) (x := oI (gV V c j)) dX10_goes_49 hb.2.2.2.2.2.2.2.2.2.2.2.2.2.2.2.2.2.2.2.2.2.1.2 (by decide) (by omega) (up2_s) ?_
      refine V_iconst (v := (-1)) dX10_goes_50 rfl ?_
      obtain ⟨k0, hk0⟩ := Option.ne_none_iff_exists'.mp (gV_some (m := j) hv hc)
      have hk1 : k0 < v_nc V := gsTo_lt _ hk0
      have hll : lV V c j ≤ 99000 := lV_le hv
      have hlk := hv.lk (m := j) (by omega)
      have hdd := dd_at (g := gV V c) (l := lV V c) (lk := v_lk V) (s := v_su V) (m := j) (n := v_nm V) (by omega)
      refine V_icmp_eq (tgt := 81) dX10_goes_51 rfl (fun q => absurd q (by rw [hk0]; exact fun z => absurd ((oI_m1 (o := some k0) (n := 12) (fun k hk => by cases hk; omega) (by omega)).mp z) (fun y => by cases y))) (fun _ => ?_)
      refine V_aload_n (i := 0) dX10_goes_54 rfl 1 rfl ?_
      refine V_aload_n (i := 0) dX10_goes_55 rfl 1 rfl ?_
      refine M_getR dX10_goes_56 lf_X10_85 rfl hb.1 hb.2.2.2.2.2.2.2.2.2.2.2.2.2.2.2.2.2.2.2.2.2.1.1 ?_
      refine V_iload_n (i := 2) dX10_goes_59 rfl 0 rfl ?_
      refine M_ialdn (j := j) (x := nI k0) dX10_goes_60 hb.2.2.2.2.2.2.2.2.2.2.2.2.2.2.2.2.2.2.2.2.2.1.2 (by decide) (by omega) (up2_s.trans (by show oI (gV V c j) = nI k0; rw [hk0]; rfl)) ?_
      refine V_aload_n (i := 0) dX10_goes_61 rfl 1 rfl ?_
      refine M_getR dX10_goes_62 lf_X10_57 rfl hb.1 hb.2.2.2.2.2.2.2.2.2.2.2.2.2.2.2.1.1 ?_
      refine V_iload_n (i := 2) dX10_goes_65 rfl 0 rfl ?_
      refine M_ialdn (j := j) (x := nI (v_eo V j)) dX10_goes_66 hb.2.2.2.2.2.2.2.2.2.2.2.2.2.2.2.1.2 (by decide) (by omega) ((up2_ne (by omega)).trans (hV25.eo (m := j) (by omega))) ?_
      have hV44 : MC (up2 (up2 (up2 iv2 b 33 (nI (v_sz V c))) b 34 (nI 1)) (b + 41) j (oI (gV V c j))) b V := hV.ma hv (hM25.up (by omega))
      have hH44 : MH (up2 (up2 (up2 iv2 b 33 (nI (v_sz V c))) b 34 (nI 1)) (b + 41) j (oI (gV V c j))) lw25 b (hearOf V c (v_eo V j) (v_sz V c) true) := ⟨hH.1, (up2_ne (by omega)).trans hH.2.1, (up2_ne (by omega)).trans hH.2.2.1, hH.2.2.2⟩
      refine M_callVp (As := [.int (nI k0), .int (nI (v_eo V j))]) (st := []) dX10_goes_67 lv_X10_276 ⟨by decide, by decide⟩ ⟨rfl, rfl⟩ rfl (ci := 7) hb.1 rfl rfl (Nat.le_of_ble_eq_true rfl) (r_likelyOf hb hV44 hv hH44 (c := k0) (e := v_eo V j) hk1 hel) ?_
      refine M_top (x2 := nI (lV V c j)) (by rw [lV_is hk0]) ?_
      refine V_aload_n (i := 0) dX10_goes_70 rfl 1 rfl ?_
      refine M_getI (x := nI (v_su V)) dX10_goes_71 lf_X10_63 rfl hb.1 ((up2_ne (by omega)).trans (hV25.su)) ?_
      refine V_icmp_lt (tgt := 81) dX10_goes_74 rfl (fun h74 => ?_) (fun h74 => ?_)
      · have h74 : (lV V c j) < (v_su V) := (nI_ltI (by omega) (by omega)).mp h74
        refine V_iconst (v := nI 0) dX10_goes_81 rfl ?_
        refine V_istore_n (lv2 := [(3, .int (nI 0)), (2, .int (nI j)), (0, .ref (b)), (1, .int (nI c))]) dX10_goes_82 rfl (by decide) rfl ?_
        refine V_iload_n (i := 3) dX10_goes_83 rfl 0 rfl ?_
        refine V_if_ne (tgt := 96) dX10_goes_84 rfl (fun q => absurd (by decide) q) (fun _ => ?_)
        refine V_aload_n (i := 0) dX10_goes_87 rfl 2 rfl ?_
        refine M_getR dX10_goes_88 lf_X10_60 rfl hb.1 hb.2.2.2.2.2.2.2.2.2.2.2.2.2.2.2.2.1.1 ?_
        refine V_iload_n (i := 2) dX10_goes_91 rfl 1 rfl ?_
        refine M_ialdn (j := j) (x := nI (v_lk V j)) dX10_goes_92 hb.2.2.2.2.2.2.2.2.2.2.2.2.2.2.2.2.1.2 (by decide) (by omega) ((up2_ne (by omega)).trans (hV25.lk (m := j) (by omega))) ?_
        refine V_if_ne (tgt := 100) dX10_goes_93 rfl (fun h93 => ?_) (fun h93 => ?_)
        · have h93 : ¬ (v_lk V j) = 0 := fun q => h93 ((nI_eq (b := 0) (by omega) (by omega)).mpr q)
          refine V_aload_n (i := 0) dX10_goes_100 rfl 2 rfl ?_
          refine V_iload_n (i := 2) dX10_goes_101 rfl 1 rfl ?_
          refine M_callVp (As := [.int (nI j)]) (st := []) dX10_goes_102 lv_X10_319 ⟨by decide, by decide⟩ ⟨rfl, rfl⟩ rfl (ci := 7) hb.1 rfl rfl (Nat.le_of_ble_eq_true rfl) (r_mostDo hb (hV.ma hv (hM25.up (by omega))) hv (m := j) (f := dF V c) (fun k hk => (up2_ne (by omega)).trans ((up2_ne (by omega)).trans ((up2_ne (by omega)).trans (hD k hk).2))) (by omega) (fun k hk q hq => dC_nc k (by omega) q hq)) ?_
          refine V_istore (lv2 := [(4, .int (oI (mdAll (fun c_1 => cntTo (fun k => decide (dF V c k = some c_1)) j)))), (3, .int (nI 0)), (2, .int (nI j)), (0, .ref (b)), (1, .int (nI c))]) dX10_goes_105 (by decide) rfl ?_
          refine V_aload_n (i := 0) dX10_goes_107 rfl 3 rfl ?_
          refine M_getR dX10_goes_108 lf_X10_82 rfl hb.1 hb.2.2.2.2.2.2.2.2.2.2.2.2.2.2.2.2.2.2.2.2.1.1 ?_
          refine V_iload_n (i := 2) dX10_goes_111 rfl 2 rfl ?_
          refine V_iload dX10_goes_112 0 rfl ?_
          refine V_iconst (v := (-1)) dX10_goes_114 rfl ?_
          refine V_icmp_eq (tgt := 123) dX10_goes_115 rfl (fun h115 => ?_) (fun h115 => ?_)
          · have h115 : (mdAll (fun c_1 => cntTo (fun k => decide (dF V c k = some c_1)) j)) = none := (oI_m1 mdAll_lt (by omega)).mp h115
            refine V_aload_n (i := 0) dX10_goes_123 rfl 3 rfl ?_
            refine M_getR dX10_goes_124 lf_X10_85 rfl hb.1 hb.2.2.2.2.2.2.2.2.2.2.2.2.2.2.2.2.2.2.2.2.2.1.1 ?_
            refine V_iload_n (i := 2) dX10_goes_127 rfl 2 rfl ?_
            refine M_ialdn (j := j) (x := oI (gV V c j)) dX10_goes_128 hb.2.2.2.2.2.2.2.2.2.2.2.2.2.2.2.2.2.2.2.2.2.1.2 (by decide) (by omega) (up2_s) ?_
            refine M_iastn (j := j) dX10_goes_129 hb.2.2.2.2.2.2.2.2.2.2.2.2.2.2.2.2.2.2.2.2.1.2 (by decide) (by omega) ?_
            refine V_iinc (v := nI (j + 1)) (lv2 := [(2, .int (nI (j + 1))), (4, .int (oI (mdAll (fun c_1 => cntTo (fun k => decide (dF V c k = some c_1)) j)))), (3, .int (nI 0)), (0, .ref (b)), (1, .int (nI c))]) dX10_goes_130 2 rfl (nI_inc _) (by decide) rfl ?_
            refine V_goto (tgt := 2) dX10_goes_133 rfl ?_
            refine V_sub [0, 3, 4] rfl ?_
            exact M_at (ih2 (by omega) _ lw25 ((hM25.up (by omega)).up (by omega)) (hL.tr a2) (mdo_s hD rfl (by show _ = oI (ddF (gV V c) (lV V c) (v_lk V) (v_su V) (v_nm V) j); rw [hdd, if_neg (fun z => z.2.2 h115)]))) (rfl) rfl (rfl) (rfl)
          · have h115 : ¬ (mdAll (fun c_1 => cntTo (fun k => decide (dF V c k = some c_1)) j)) = none := fun z => h115 ((oI_m1 mdAll_lt (by omega)).mpr z)
            refine V_iload dX10_goes_118 0 rfl ?_
            refine V_goto (tgt := 129) dX10_goes_120 rfl ?_
            refine M_iastn (j := j) dX10_goes_129 hb.2.2.2.2.2.2.2.2.2.2.2.2.2.2.2.2.2.2.2.2.1.2 (by decide) (by omega) ?_
            refine V_iinc (v := nI (j + 1)) (lv2 := [(2, .int (nI (j + 1))), (4, .int (oI (mdAll (fun c_1 => cntTo (fun k => decide (dF V c k = some c_1)) j)))), (3, .int (nI 0)), (0, .ref (b)), (1, .int (nI c))]) dX10_goes_130 2 rfl (nI_inc _) (by decide) rfl ?_
            refine V_goto (tgt := 2) dX10_goes_133 rfl ?_
            refine V_sub [0, 3, 4] rfl ?_
            exact M_at (ih2 (by omega) _ lw25 ((hM25.up (by omega)).up (by omega)) (hL.tr a2) (mdo_s hD rfl (by show _ = oI (ddF (gV V c) (lV V c) (v_lk V) (v_su V) (v_nm V) j); rw [hdd, if_pos ⟨by omega, by omega, h115⟩]))) (rfl) rfl (rfl) (rfl)
        · have h93 : (v_lk V j) = 0 := (nI_eq (b := 0) (by omega) (by omega)).mp h93
          refine V_iconst (v := (-1)) dX10_goes_96 rfl ?_
          refine V_goto (tgt := 105) dX10_goes_97 rfl ?_
          refine V_istore (lv2 := [(4, .int ((-1))), (3, .int (nI 0)), (2, .int (nI j)), (0, .ref (b)), (1, .int (nI c))]) dX10_goes_105 (by decide) rfl ?_
          refine V_aload_n (i := 0) dX10_goes_107 rfl 3 rfl ?_
          refine M_getR dX10_goes_108 lf_X10_82 rfl hb.1 hb.2.2.2.2.2.2.2.2.2.2.2.2.2.2.2.2.2.2.2.2.1.1 ?_
          refine V_iload_n (i := 2) dX10_goes_111 rfl 2 rfl ?_
          refine V_iload dX10_goes_112 0 rfl ?_
          refine V_iconst (v := (-1)) dX10_goes_114 rfl ?_
          refine V_icmp_eq (tgt := 123) dX10_goes_115 rfl (fun _ => ?_) (fun q => absurd (rfl) q)
          refine V_aload_n (i := 0) dX10_goes_123 rfl 3 rfl ?_
          refine M_getR dX10_goes_124 lf_X10_85 rfl hb.1 hb.2.2.2.2.2.2.2.2.2.2.2.2.2.2.2.2.2.2.2.2.2.1.1 ?_
          refine V_iload_n (i := 2) dX10_goes_127 rfl 2 rfl ?_
          refine M_ialdn (j := j) (x := oI (gV V c j)) dX10_goes_128 hb.2.2.2.2.2.2.2.2.2.2.2.2.2.2.2.2.2.2.2.2.2.1.2 (by decide) (by omega) (up2_s) ?_
          refine M_iastn (j := j) dX10_goes_129 hb.2.2.2.2.2.2.2.2.2.2.2.2.2.2.2.2.2.2.2.2.1.2 (by decide) (by omega) ?_
          refine V_iinc (v := nI (j + 1)) (lv2 := [(2, .int (nI (j + 1))), (4, .int ((-1))), (3, .int (nI 0)), (0, .ref (b)), (1, .int (nI c))]) dX10_goes_130 2 rfl (nI_inc _) (by decide) rfl ?_
          refine V_goto (tgt := 2) dX10_goes_133 rfl ?_
          refine V_sub [0, 3, 4] rfl ?_
          exact M_at (ih2 (by omega) _ lw25 ((hM25.up (by omega)).up (by omega)) (hL.tr a2) (mdo_s hD rfl (by show _ = oI (ddF (gV V c) (lV V c) (v_lk V) (v_su V) (v_nm V) j); rw [hdd, if_neg (fun z => by omega)]))) (rfl) rfl (rfl) (rfl)
      · have h74 : ¬ (lV V c j) < (v_su V) := fun q => h74 ((nI_ltI (by omega) (by omega)).mpr q)
        refine V_iconst (v := nI 1) dX10_goes_77 rfl ?_
        refine V_goto (tgt := 82) dX10_goes_78 rfl ?_
        refine V_istore_n (lv2 := [(3, .int (nI 1)), (2, .int (nI j)), (0, .ref (b)), (1, .int (nI c))]) dX10_goes_82 rfl (by decide) rfl ?_
        refine V_iload_n (i := 3) dX10_goes_83 rfl 0 rfl ?_
        refine V_if_ne (tgt := 96) dX10_goes_84 rfl (fun _ => ?_) (fun q => absurd q (by decide))
        refine V_iconst (v := (-1)) dX10_goes_96 rfl ?_
        refine V_goto (tgt := 105) dX10_goes_97 rfl ?_
        refine V_istore (lv2 := [(4, .int ((-1))), (3, .int (nI 1)), (2, .int (nI j)), (0, .ref (b)), (1, .int (nI c))]) dX10_goes_105 (by decide) rfl ?_
        refine V_aload_n (i := 0) dX10_goes_107 rfl 3 rfl ?_
        refine M_getR dX10_goes_108 lf_X10_82 rfl hb.1 hb.2.2.2.2.2.2.2.2.2.2.2.2.2.2.2.2.2.2.2.2.1.1 ?_
        refine V_iload_n (i := 2) dX10_goes_111 rfl 2 rfl ?_
        refine V_iload dX10_goes_112 0 rfl ?_
        refine V_iconst (v := (-1)) dX10_goes_114 rfl ?_
        refine V_icmp_eq (tgt := 123) dX10_goes_115 rfl (fun _ => ?_) (fun q => absurd (rfl) q)
        refine V_aload_n (i := 0) dX10_goes_123 rfl 3 rfl ?_
        refine M_getR dX10_goes_124 lf_X10_85 rfl hb.1 hb.2.2.2.2.2.2.2.2.2.2.2.2.2.2.2.2.2.2.2.2.2.1.1 ?_
        refine V_iload_n (i := 2) dX10_goes_127 rfl 2 rfl ?_
        refine M_ialdn (j := j) (x := oI (gV V c j)) dX10_goes_128 hb.2.2.2.2.2.2.2.2.2.2.2.2.2.2.2.2.2.2.2.2.2.1.2 (by decide) (by omega) (up2_s) ?_
        refine M_iastn (j := j) dX10_goes_129 hb.2.2.2.2.2.2.2.2.2.2.2.2.2.2.2.2.2.2.2.2.1.2 (by decide) (by omega) ?_
        refine V_iinc (v := nI (j + 1)) (lv2 := [(2, .int (nI (j + 1))), (4, .int ((-1))), (3, .int (nI 1)), (0, .ref (b)), (1, .int (nI c))]) dX10_goes_130 2 rfl (nI_inc _) (by decide) rfl ?_
        refine V_goto (tgt := 2) dX10_goes_133 rfl ?_
        refine V_sub [0, 3, 4] rfl ?_
        exact M_at (ih2 (by omega) _ lw25 ((hM25.up (by omega)).up (by omega)) (hL.tr a2) (mdo_s hD rfl (by show _ = oI (ddF (gV V c) (lV V c) (v_lk V) (v_su V) (v_nm V) j); rw [hdd, if_neg (fun z => by omega)]))) (rfl) rfl (rfl) (rfl)
  refine V_sub [0, 1, 2] rfl ?_
  exact M_at (lp2 0 (Nat.zero_le _) iv lw MA.rf Off.rf (fun m hm => absurd hm (by omega))) (rfl) rfl (rfl) (rfl)
set_option maxRecDepth 20000 in
theorem q_does {g : Ev} {S : St} {iv : IV} {lw : LW} {b : Nat} (hs : SS S b) {X : Xs} (hX : MX S iv lw b X) (hk : XOK X) {c : Int32} {m : Int32} : CQ g mX10_does [.ref (b), .int (c), .int (m)] S iv lw (fun w iv2 lw2 => MP S b iv lw (o_does X c m) w iv2 lw2) := by
  refine CT_ofQ rfl (by decide) (Nat.le_of_ble_eq_true rfl) (lv := [(0, .ref (b)), (1, .int (c)), (2, .int (m))]) rfl (fun Q hQ => ?_)
  have hb := hs.1
  have hA := hX.1
  have hv := hk.1
  have hnc := hv.nc
  have hne := hv.ne
  have hnm := hv.nm
  refine V_aload_n (i := 0) dX10_does_0 rfl 0 rfl ?_
  refine V_iload_n (i := 1) dX10_does_1 rfl 1 rfl ?_
  refine M_callVp (As := [.int (c)]) (st := []) dX10_does_2 lv_X10_155 ⟨by decide, by decide⟩ ⟨rfl, rfl⟩ rfl (ci := 7) hb.1 rfl rfl (Nat.le_of_ble_eq_true rfl) (r_isCall hb hA hv) ?_
  refine V_if_eq (tgt := 16) dX10_does_5 rfl (fun h5 => ?_) (fun h5 => ?_)
  · have h5 : ¬ (inR c (v_nc (x_A X))) := bI_eq0.mp h5
    refine V_aload_n (i := 0) dX10_does_16 rfl 0 rfl ?_
    refine V_bipush (v := (-2)) dX10_does_17 rfl ?_
    refine M_callVq (As := [.int ((-2))]) (st := []) dX10_does_19 lv_X10_107 ⟨by decide, by decide⟩ ⟨rfl, rfl⟩ rfl (ci := 7) hb.1 rfl rfl (Nat.le_of_ble_eq_true rfl) (q_refuse hs hX hk (j := 0) (by decide)) (fun w19 iv19 lw19 q19 => ?_)
    obtain ⟨rfl, e1, hXr, hOr⟩ := q19
    subst e1
    refine V_iret dX10_does_22 ⟨rfl, rfl⟩ (Nat.zero_le _) (Nat.zero_le _) ?_
    subst hQ
    exact ⟨_, _, _, rfl, rfl, by unfold o_does; rw [if_pos (fun z => h5 z.1)]; exact ⟨rfl, hXr, hOr, Off.rf⟩⟩
  · have h5 : inR c (v_nc (x_A X)) := bI_ne.mp h5
    refine V_aload_n (i := 0) dX10_does_8 rfl 0 rfl ?_
    refine V_iload_n (i := 2) dX10_does_9 rfl 2 rfl ?_
    refine M_callVp (As := [.int (m)]) (st := []) dX10_does_10 lv_X10_251 ⟨by decide, by decide⟩ ⟨rfl, rfl⟩ rfl (ci := 7) hb.1 rfl rfl (Nat.le_of_ble_eq_true rfl) (r_isMan hb hA hv) ?_
    refine V_if_ne (tgt := 23) dX10_does_13 rfl (fun h13 => ?_) (fun h13 => ?_)
    · have h13 : inR m (v_nm (x_A X)) := bI_ne.mp h13
      have cc := iN_eq (k := c) (by omega)
      have cm := iN_eq (k := m) (by omega)
      have dc := iN_i (k := c) (by omega)
      have dm := iN_i (k := m) (by omega)
      refine M_at (lv2 := [(0, .ref (b)), (1, .int (nI (iN c))), (2, .int (nI (iN m)))]) (st2 := []) ?_ (by rw [← cc, ← cm]) rfl rfl rfl
      refine V_aload_n (i := 0) dX10_does_23 rfl 0 rfl ?_
      refine V_iload_n (i := 1) dX10_does_24 rfl 1 rfl ?_
      refine M_callVn (As := [.int (nI (iN c))]) (st := []) dX10_does_25 lv_X10_322 ⟨by decide, by decide⟩ ⟨rfl, rfl⟩ rfl (ci := 7) hb.1 rfl rfl (Nat.le_of_ble_eq_true rfl) (r_goes hb hA hv (c := iN c) (by omega)) (fun iv25 lw25 q25 => ?_)
      obtain ⟨hM, hL, hD⟩ := q25
      have hA2 := hA.ma hv hM
      refine V_aload_n (i := 0) dX10_does_28 rfl 0 rfl ?_
      refine M_getR dX10_does_29 lf_X10_82 rfl hb.1 hb.2.2.2.2.2.2.2.2.2.2.2.2.2.2.2.2.2.2.2.2.1.1 ?_
      refine V_iload_n (i := 2) dX10_does_32 rfl 2 rfl ?_
      refine M_ialdn (j := (iN m)) (x := oI (dC (x_A X) (iN c) (iN m))) dX10_does_33 hb.2.2.2.2.2.2.2.2.2.2.2.2.2.2.2.2.2.2.2.2.1.2 (by decide) (by omega) ((hD (iN m) (by omega)).2) ?_
      refine V_iret dX10_does_34 ⟨rfl, rfl⟩ (Nat.zero_le _) (Nat.zero_le _) ?_
      subst hQ
      exact ⟨_, _, _, rfl, rfl, by unfold o_does; rw [if_neg (fun z => z ⟨h5, h13⟩)]; exact MP.ma hX hk hM hL⟩
    · have h13 : ¬ (inR m (v_nm (x_A X))) := bI_eq0.mp h13
      refine V_aload_n (i := 0) dX10_does_16 rfl 0 rfl ?_
      refine V_bipush (v := (-2)) dX10_does_17 rfl ?_
      refine M_callVq (As := [.int ((-2))]) (st := []) dX10_does_19 lv_X10_107 ⟨by decide, by decide⟩ ⟨rfl, rfl⟩ rfl (ci := 7) hb.1 rfl rfl (Nat.le_of_ble_eq_true rfl) (q_refuse hs hX hk (j := 0) (by decide)) (fun w19 iv19 lw19 q19 => ?_)
      obtain ⟨rfl, e1, hXr, hOr⟩ := q19
      subst e1
      refine V_iret dX10_does_22 ⟨rfl, rfl⟩ (Nat.zero_le _) (Nat.zero_le _) ?_
      subst hQ
      exact ⟨_, _, _, rfl, rfl, by unfold o_does; rw [if_pos (fun z => h13 z.2)]; exact ⟨rfl, hXr, hOr, Off.rf⟩⟩
set_option maxRecDepth 20000 in
theorem r_rightOf {g : Ev} {S : St} {iv : IV} {lw : LW} {b : Nat} (hb : IsMod S b) {V : Cv} (hV : MC iv b V) (hv : VOK V) {c : Nat} (hc : c < v_nc V) : CQ g mX10_rightOf [.ref (b), .int (nI c)] S iv lw (fun w iv2 lw2 => w = .int (nI (cntTo (fun m => decide (dC V c m = some c)) (v_nm V))) ∧ MA b iv iv2 ∧ Off (b + 38) 1 lw lw2) := by
  refine CT_ofQ rfl (by decide) (Nat.le_of_ble_eq_true rfl) (lv := [(0, .ref (b)), (1, .int (nI c))]) rfl (fun Q hQ => ?_)
  have hnc := hv.nc
  have hne := hv.ne
  have hnm := hv.nm
  refine V_aload_n (i := 0) dX10_rightOf_0 rfl 0 rfl ?_
  refine V_iload_n (i := 1) dX10_rightOf_1 rfl 1 rfl ?_
  refine M_callVn (As := [.int (nI c)]) (st := []) dX10_rightOf_2 lv_X10_322 ⟨by decide, by decide⟩ ⟨rfl, rfl⟩ rfl (ci := 7) hb.1 rfl rfl (Nat.le_of_ble_eq_true rfl) (r_goes hb hV hv hc) (fun iv2 lw2 q2 => ?_)
  obtain ⟨hM, hL, hD⟩ := q2
  have hV2 := hV.ma hv hM
  refine V_iconst (v := nI 0) dX10_rightOf_5 rfl ?_
  refine V_istore_n (lv2 := [(2, .int (nI 0)), (0, .ref (b)), (1, .int (nI c))]) dX10_rightOf_6 rfl (by decide) rfl ?_
  refine V_iconst (v := nI 0) dX10_rightOf_7 rfl ?_
  refine V_istore_n (lv2 := [(3, .int (nI 0)), (2, .int (nI 0)), (0, .ref (b)), (1, .int (nI c))]) dX10_rightOf_8 rfl (by decide) rfl ?_
  have lp9 : ∀ j, j ≤ (v_nm V) → VM g mX10_rightOf 9 [(3, .int (nI j)), (2, .int (nI (cntTo (fun m => decide (dC V c m = some c)) j))), (0, .ref (b)), (1, .int (nI c))] [] S iv2 lw2 Q := by
    refine up_ind fun j hj ih9 => ?_
    refine V_iload_n (i := 3) dX10_rightOf_9 rfl 0 rfl ?_
    refine V_aload_n (i := 0) dX10_rightOf_10 rfl 2 rfl ?_
    refine M_getI (x := nI (v_nm V)) dX10_rightOf_11 lf_X10_98 rfl hb.1 (hV2.nm) ?_
    refine V_icmp_ge (tgt := 41) dX10_rightOf_14 rfl (fun h14 => ?_) (fun h14 => ?_)
    · have h14 : (v_nm V) ≤ j := (nI_leI (by omega) (by omega)).mp h14
      refine V_iload_n (i := 2) dX10_rightOf_41 rfl 1 rfl ?_
      refine V_iret dX10_rightOf_42 ⟨rfl, rfl⟩ (Nat.zero_le _) (Nat.zero_le _) ?_
      subst hQ
      obtain rfl : j = v_nm V := by omega
      exact ⟨_, _, _, rfl, rfl, rfl, hM, hL⟩
    · have h14 : ¬ (v_nm V) ≤ j := fun q => h14 ((nI_leI (by omega) (by omega)).mpr q)
      refine V_iload_n (i := 2) dX10_rightOf_17 rfl 1 rfl ?_
      refine V_aload_n (i := 0) dX10_rightOf_18 rfl 2 rfl ?_
      refine M_getR dX10_rightOf_19 lf_X10_82 rfl hb.1 hb.2.2.2.2.2.2.2.2.2.2.2.2.2.2.2.2.2.2.2.2.1.1 ?_
      refine V_iload_n (i := 3) dX10_rightOf_22 rfl 0 rfl ?_
      refine M_ialdn (j := j) (x := oI (dC V c j)) dX10_rightOf_23 hb.2.2.2.2.2.2.2.2.2.2.2.2.2.2.2.2.2.2.2.2.1.2 (by decide) (by omega) ((hD j (by omega)).2) ?_
      refine V_iload_n (i := 1) dX10_rightOf_24 rfl 3 rfl ?_
      refine V_icmp_ne (tgt := 32) dX10_rightOf_25 rfl (fun h25 => ?_) (fun h25 => ?_)
      · have h25 : ¬ dC V c j = some c := fun z => h25 ((oI_eq (n := 12) (fun k hk => by have := dC_nc (V := V) (c := c) j (by omega) k hk; omega) (by omega) (by omega)).mpr z).symm
        refine V_iconst (v := nI 0) dX10_rightOf_32 rfl ?_
        refine V_iadd dX10_rightOf_33 ?_
        refine M_top (nI_add _ _) ?_
        refine V_istore_n (lv2 := [(2, .int (nI ((cntTo (fun m => decide (dC V c m = some c)) j) + 0))), (3, .int (nI j)), (0, .ref (b)), (1, .int (nI c))]) dX10_rightOf_34 rfl (by decide) rfl ?_
        refine V_iinc (v := nI (j + 1)) (lv2 := [(3, .int (nI (j + 1))), (2, .int (nI ((cntTo (fun m => decide (dC V c m = some c)) j) + 0))), (0, .ref (b)), (1, .int (nI c))]) dX10_rightOf_35 1 rfl (nI_inc _) (by decide) rfl ?_
        refine V_goto (tgt := 9) dX10_rightOf_38 rfl ?_
        refine V_sub [0, 1, 2, 3] rfl ?_
        exact M_at (ih9 (by omega)) (by rw [cntTo_f (decide_eq_false h25)]; rfl) rfl (rfl) (rfl)
      · have h25 := (oI_eq (o := dC V c j) (n := 12) (fun k hk => by have := dC_nc (V := V) (c := c) j (by omega) k hk; omega) (by omega) (by omega)).mp h25.symm
        refine V_iconst (v := nI 1) dX10_rightOf_28 rfl ?_
        refine V_goto (tgt := 33) dX10_rightOf_29 rfl ?_
        refine V_iadd dX10_rightOf_33 ?_
        refine M_top (nI_add _ _) ?_
        refine V_istore_n (lv2 := [(2, .int (nI ((cntTo (fun m => decide (dC V c m = some c)) j) + 1))), (3, .int (nI j)), (0, .ref (b)), (1, .int (nI c))]) dX10_rightOf_34 rfl (by decide) rfl ?_
        refine V_iinc (v := nI (j + 1)) (lv2 := [(3, .int (nI (j + 1))), (2, .int (nI ((cntTo (fun m => decide (dC V c m = some c)) j) + 1))), (0, .ref (b)), (1, .int (nI c))]) dX10_rightOf_35 1 rfl (nI_inc _) (by decide) rfl ?_
        refine V_goto (tgt := 9) dX10_rightOf_38 rfl ?_
        refine V_sub [0, 1, 2, 3] rfl ?_
        exact M_at (ih9 (by omega)) (by rw [cntTo_t (decide_eq_true h25)]; rfl) rfl (rfl) (rfl)
  refine V_sub [0, 1, 2, 3] rfl ?_
  exact M_at (lp9 0 (Nat.zero_le _)) (rfl) rfl (rfl) (rfl)
set_option maxRecDepth 20000 in
theorem q_right {g : Ev} {S : St} {iv : IV} {lw : LW} {b : Nat} (hs : SS S b) {X : Xs} (hX : MX S iv lw b X) (hk : XOK X) {c : Int32} : CQ g mX10_right [.ref (b), .int (c)] S iv lw (fun w iv2 lw2 => MP S b iv lw (o_right X c) w iv2 lw2) := by
  refine CT_ofQ rfl (by decide) (Nat.le_of_ble_eq_true rfl) (lv := [(0, .ref (b)), (1, .int (c))]) rfl (fun Q hQ => ?_)
  have hb := hs.1
  have hA := hX.1
  have hv := hk.1
  have hnc := hv.nc
  have hne := hv.ne
  have hnm := hv.nm
  refine V_aload_n (i := 0) dX10_right_0 rfl 0 rfl ?_
  refine V_iload_n (i := 1) dX10_right_1 rfl 1 rfl ?_
  refine M_callVp (As := [.int (c)]) (st := []) dX10_right_2 lv_X10_155 ⟨by decide, by decide⟩ ⟨rfl, rfl⟩ rfl (ci := 7) hb.1 rfl rfl (Nat.le_of_ble_eq_true rfl) (r_isCall hb hA hv) ?_
  refine V_if_eq (tgt := 16) dX10_right_5 rfl (fun h5 => ?_) (fun h5 => ?_)
  · have h5 : ¬ (inR c (v_nc (x_A X))) := bI_eq0.mp h5
    refine V_aload_n (i := 0) dX10_right_16 rfl 0 rfl ?_
    refine V_bipush (v := (-2)) dX10_right_17 rfl ?_
    refine M_callVq (As := [.int ((-2))]) (st := []) dX10_right_19 lv_X10_107 ⟨by decide, by decide⟩ ⟨rfl, rfl⟩ rfl (ci := 7) hb.1 rfl rfl (Nat.le_of_ble_eq_true rfl) (q_refuse hs hX hk (j := 0) (by decide)) (fun w19 iv19 lw19 q19 => ?_)
    obtain ⟨rfl, e1, hXr, hOr⟩ := q19
    subst e1
    refine V_iret dX10_right_22 ⟨rfl, rfl⟩ (Nat.zero_le _) (Nat.zero_le _) ?_
    subst hQ
    exact ⟨_, _, _, rfl, rfl, by unfold o_right; rw [if_pos h5]; exact ⟨rfl, hXr, hOr, Off.rf⟩⟩
  · have h5 : inR c (v_nc (x_A X)) := bI_ne.mp h5
    have cc := iN_eq (k := c) (by omega)
    have dc := iN_i (k := c) (by omega)
    refine M_at (lv2 := [(0, .ref (b)), (1, .int (nI (iN c)))]) (st2 := []) ?_ (by rw [← cc]) rfl rfl rfl
    refine V_aload_n (i := 0) dX10_right_8 rfl 0 rfl ?_
    refine V_iload_n (i := 1) dX10_right_9 rfl 1 rfl ?_
    refine M_callVq (As := [.int (nI (iN c))]) (st := []) dX10_right_10 lv_X10_326 ⟨by decide, by decide⟩ ⟨rfl, rfl⟩ rfl (ci := 7) hb.1 rfl rfl (Nat.le_of_ble_eq_true rfl) (r_rightOf hb hA hv (c := iN c) (by omega)) (fun w10 iv10 lw10 q10 => ?_)
    obtain ⟨rfl, hM, hL⟩ := q10
    refine V_goto (tgt := 22) dX10_right_13 rfl ?_
    refine V_iret dX10_right_22 ⟨rfl, rfl⟩ (Nat.zero_le _) (Nat.zero_le _) ?_
    subst hQ
    exact ⟨_, _, _, rfl, rfl, by unfold o_right; rw [if_neg (fun z => z h5)]; exact MP.ma hX hk hM hL⟩
set_option maxRecDepth 20000 in
theorem q_leads {g : Ev} {S : St} {iv : IV} {lw : LW} {b : Nat} (hs : SS S b) {X : Xs} (hX : MX S iv lw b X) (hk : XOK X) {c : Int32} : CQ g mX10_leads [.ref (b), .int (c)] S iv lw (fun w iv2 lw2 => MP S b iv lw (o_leads X c) w iv2 lw2) := by
  refine CT_ofQ rfl (by decide) (Nat.le_of_ble_eq_true rfl) (lv := [(0, .ref (b)), (1, .int (c))]) rfl (fun Q hQ => ?_)
  have hb := hs.1
  have hA := hX.1
  have hv := hk.1
  have hnc := hv.nc
  have hne := hv.ne
  have hnm := hv.nm
  refine V_aload_n (i := 0) dX10_leads_0 rfl 0 rfl ?_
  refine V_iload_n (i := 1) dX10_leads_1 rfl 1 rfl ?_
  refine M_callVp (As := [.int (c)]) (st := []) dX10_leads_2 lv_X10_155 ⟨by decide, by decide⟩ ⟨rfl, rfl⟩ rfl (ci := 7) hb.1 rfl rfl (Nat.le_of_ble_eq_true rfl) (r_isCall hb hA hv) ?_
  refine V_if_ne (tgt := 15) dX10_leads_5 rfl (fun h5 => ?_) (fun h5 => ?_)
  · have h5 : inR c (v_nc (x_A X)) := bI_ne.mp h5
    have cc := iN_eq (k := c) (by omega)
    have dc := iN_i (k := c) (by omega)
    refine M_at (lv2 := [(0, .ref (b)), (1, .int (nI (iN c)))]) (st2 := []) ?_ (by rw [← cc]) rfl rfl rfl
    refine V_aload_n (i := 0) dX10_leads_15 rfl 0 rfl ?_
    refine V_iload_n (i := 1) dX10_leads_16 rfl 1 rfl ?_
    refine M_callVn (As := [.int (nI (iN c))]) (st := []) dX10_leads_17 lv_X10_322 ⟨by decide, by decide⟩ ⟨rfl, rfl⟩ rfl (ci := 7) hb.1 rfl rfl (Nat.le_of_ble_eq_true rfl) (r_goes hb hA hv (c := iN c) (by omega)) (fun iv17 lw17 q17 => ?_)
    obtain ⟨hM, hL, hD⟩ := q17
    have hA2 := hA.ma hv hM
    refine V_iconst (v := nI 0) dX10_leads_20 rfl ?_
    refine V_istore_n (lv2 := [(2, .int (nI 0)), (0, .ref (b)), (1, .int (nI (iN c)))]) dX10_leads_21 rfl (by decide) rfl ?_
    have lp22 : ∀ j, j ≤ (v_nm (x_A X)) → (∀ k, k < j → (fun m => !decide (dC (x_A X) (iN c) m = none) && !decide (dC (x_A X) (iN c) m = some (iN c))) k = false) → VM g mX10_leads 22 [(2, .int (nI j)), (0, .ref (b)), (1, .int (nI (iN c)))] [] S iv17 lw17 Q := by
      refine up_ind fun j hj ih22 => ?_
      intro hno
      refine V_iload_n (i := 2) dX10_leads_22 rfl 0 rfl ?_
      refine V_aload_n (i := 0) dX10_leads_23 rfl 1 rfl ?_
      refine M_getI (x := nI (v_nm (x_A X))) dX10_leads_24 lf_X10_98 rfl hb.1 (hA2.nm) ?_
      refine V_icmp_ge (tgt := 58) dX10_leads_27 rfl (fun h27 => ?_) (fun h27 => ?_)
      · have h27 : (v_nm (x_A X)) ≤ j := (nI_leI (by omega) (by omega)).mp h27
        refine V_iconst (v := (-1)) dX10_leads_58 rfl ?_
        refine V_iret dX10_leads_59 ⟨rfl, rfl⟩ (Nat.zero_le _) (Nat.zero_le _) ?_
        subst hQ
        exact ⟨_, _, _, rfl, rfl, by unfold o_leads; rw [if_neg (fun z => z h5), ffO_none (p := (fun m => !decide (dC (x_A X) (iN c) m = none) && !decide (dC (x_A X) (iN c) m = some (iN c)))) (fun k hk => hno k (by omega))]; exact MP.ma hX hk hM hL⟩
      · have h27 : ¬ (v_nm (x_A X)) ≤ j := fun q => h27 ((nI_leI (by omega) (by omega)).mpr q)
        refine V_aload_n (i := 0) dX10_leads_30 rfl 1 rfl ?_
        refine M_getR dX10_leads_31 lf_X10_82 rfl hb.1 hb.2.2.2.2.2.2.2.2.2.2.2.2.2.2.2.2.2.2.2.2.1.1 ?_
        refine V_iload_n (i := 2) dX10_leads_34 rfl 0 rfl ?_
        refine M_ialdn (j := j) (x := oI (dC (x_A X) (iN c) j)) dX10_leads_35 hb.2.2.2.2.2.2.2.2.2.2.2.2.2.2.2.2.2.2.2.2.1.2 (by decide) (by omega) ((hD j (by omega)).2) ?_
        refine V_iload_n (i := 1) dX10_leads_36 rfl 2 rfl ?_
        refine V_icmp_eq (tgt := 52) dX10_leads_37 rfl (fun h37 => ?_) (fun h37 => ?_)
        · have h37 := (oI_eq (o := dC (x_A X) (iN c) j) (n := 12) (fun k hk => by have := dC_nc (V := x_A X) (c := iN c) j (by omega) k hk; omega) (by omega) (by omega)).mp h37.symm
          refine V_iinc (v := nI (j + 1)) (lv2 := [(2, .int (nI (j + 1))), (0, .ref (b)), (1, .int (nI (iN c)))]) dX10_leads_52 0 rfl (nI_inc _) (by decide) rfl ?_
          refine V_goto (tgt := 22) dX10_leads_55 rfl ?_
          refine V_sub [0, 1, 2] rfl ?_
          exact M_at (ih22 (by omega) (fun k hk => if e : k = j then e ▸ ld_f (Or.inr h37) else hno k (by omega))) (rfl) rfl (rfl) (rfl)
        · have h37 : ¬ dC (x_A X) (iN c) j = some (iN c) := fun z => h37 ((oI_eq (n := 12) (fun k hk => by have := dC_nc (V := x_A X) (c := iN c) j (by omega) k hk; omega) (by omega) (by omega)).mpr z).symm
          refine V_aload_n (i := 0) dX10_leads_40 rfl 1 rfl ?_
          refine M_getR dX10_leads_41 lf_X10_82 rfl hb.1 hb.2.2.2.2.2.2.2.2.2.2.2.2.2.2.2.2.2.2.2.2.1.1 ?_
          refine V_iload_n (i := 2) dX10_leads_44 rfl 0 rfl ?_
          refine M_ialdn (j := j) (x := oI (dC (x_A X) (iN c) j)) dX10_leads_45 hb.2.2.2.2.2.2.2.2.2.2.2.2.2.2.2.2.2.2.2.2.1.2 (by decide) (by omega) ((hD j (by omega)).2) ?_
          refine V_iconst (v := (-1)) dX10_leads_46 rfl ?_
          refine V_icmp_eq (tgt := 52) dX10_leads_47 rfl (fun h47 => ?_) (fun h47 => ?_)
          · have h47 : dC (x_A X) (iN c) j = none := (oI_m1 (n := 12) (fun k hk => by have := dC_nc (V := x_A X) (c := iN c) j (by omega) k hk; omega) (by omega)).mp h47
            refine V_iinc (v := nI (j + 1)) (lv2 := [(2, .int (nI (j + 1))), (0, .ref (b)), (1, .int (nI (iN c)))]) dX10_leads_52 0 rfl (nI_inc _) (by decide) rfl ?_
            refine V_goto (tgt := 22) dX10_leads_55 rfl ?_
            refine V_sub [0, 1, 2] rfl ?_
            exact M_at (ih22 (by omega) (fun k hk => if e : k = j then e ▸ ld_f (Or.inl h47) else hno k (by omega))) (rfl) rfl (rfl) (rfl)
          · have h47 : ¬ dC (x_A X) (iN c) j = none := fun z => h47 ((oI_m1 (n := 12) (fun k hk => by have := dC_nc (V := x_A X) (c := iN c) j (by omega) k hk; omega) (by omega)).mpr z)
            refine V_iload_n (i := 2) dX10_leads_50 rfl 0 rfl ?_
            refine V_iret dX10_leads_51 ⟨rfl, rfl⟩ (Nat.zero_le _) (Nat.zero_le _) ?_
            subst hQ
            exact ⟨_, _, _, rfl, rfl, by unfold o_leads; rw [if_neg (fun z => z h5), ffO_at (p := (fun m => !decide (dC (x_A X) (iN c) m = none) && !decide (dC (x_A X) (iN c) m = some (iN c)))) (k := j) (by omega) hno (ld_t h47 h37)]; exact MP.ma hX hk hM hL⟩
    refine V_sub [0, 1, 2] rfl ?_
    exact M_at (lp22 0 (Nat.zero_le _) (fun k hk => absurd hk (by omega))) (rfl) rfl (rfl) (rfl)
  · have h5 : ¬ (inR c (v_nc (x_A X))) := bI_eq0.mp h5
    refine V_aload_n (i := 0) dX10_leads_8 rfl 0 rfl ?_
    refine V_bipush (v := (-2)) dX10_leads_9 rfl ?_
    refine M_callVq (As := [.int ((-2))]) (st := []) dX10_leads_11 lv_X10_107 ⟨by decide, by decide⟩ ⟨rfl, rfl⟩ rfl (ci := 7) hb.1 rfl rfl (Nat.le_of_ble_eq_true rfl) (q_refuse hs hX hk (j := 0) (by decide)) (fun w11 iv11 lw11 q11 => ?_)
    obtain ⟨rfl, e1, hXr, hOr⟩ := q11
    subst e1
    refine V_iret dX10_leads_14 ⟨rfl, rfl⟩ (Nat.zero_le _) (Nat.zero_le _) ?_
    subst hQ
    exact ⟨_, _, _, rfl, rfl, by unfold o_leads; rw [if_pos h5]; exact ⟨rfl, hXr, hOr, Off.rf⟩⟩
set_option maxRecDepth 20000 in
theorem q_follows {g : Ev} {S : St} {iv : IV} {lw : LW} {b : Nat} (hs : SS S b) {X : Xs} (hX : MX S iv lw b X) (hk : XOK X) {c : Int32} : CQ g mX10_follows [.ref (b), .int (c)] S iv lw (fun w iv2 lw2 => MP S b iv lw (o_follows X c) w iv2 lw2) := by
  refine CT_ofQ rfl (by decide) (Nat.le_of_ble_eq_true rfl) (lv := [(0, .ref (b)), (1, .int (c))]) rfl (fun Q hQ => ?_)
  have hb := hs.1
  have hA := hX.1
  have hv := hk.1
  have hnc := hv.nc
  have hne := hv.ne
  have hnm := hv.nm
  refine V_aload_n (i := 0) dX10_follows_0 rfl 0 rfl ?_
  refine V_iload_n (i := 1) dX10_follows_1 rfl 1 rfl ?_
  refine M_callVp (As := [.int (c)]) (st := []) dX10_follows_2 lv_X10_155 ⟨by decide, by decide⟩ ⟨rfl, rfl⟩ rfl (ci := 7) hb.1 rfl rfl (Nat.le_of_ble_eq_true rfl) (r_isCall hb hA hv) ?_
  refine V_if_ne (tgt := 15) dX10_follows_5 rfl (fun h5 => ?_) (fun h5 => ?_)
  · have h5 : inR c (v_nc (x_A X)) := bI_ne.mp h5
    have cc := iN_eq (k := c) (by omega)
    have dc := iN_i (k := c) (by omega)
    refine M_at (lv2 := [(0, .ref (b)), (1, .int (nI (iN c)))]) (st2 := []) ?_ (by rw [← cc]) rfl rfl rfl
    refine V_aload_n (i := 0) dX10_follows_15 rfl 0 rfl ?_
    refine V_iload_n (i := 1) dX10_follows_16 rfl 1 rfl ?_
    refine M_callVn (As := [.int (nI (iN c))]) (st := []) dX10_follows_17 lv_X10_322 ⟨by decide, by decide⟩ ⟨rfl, rfl⟩ rfl (ci := 7) hb.1 rfl rfl (Nat.le_of_ble_eq_true rfl) (r_goes hb hA hv (c := iN c) (by omega)) (fun iv17 lw17 q17 => ?_)
    obtain ⟨hM, hL, hD⟩ := q17
    have hA2 := hA.ma hv hM
    refine V_iconst (v := nI 0) dX10_follows_20 rfl ?_
    refine V_istore_n (lv2 := [(2, .int (nI 0)), (0, .ref (b)), (1, .int (nI (iN c)))]) dX10_follows_21 rfl (by decide) rfl ?_
    refine V_iconst (v := nI 0) dX10_follows_22 rfl ?_
    refine V_istore_n (lv2 := [(3, .int (nI 0)), (2, .int (nI 0)), (0, .ref (b)), (1, .int (nI (iN c)))]) dX10_follows_23 rfl (by decide) rfl ?_
    have lp24 : ∀ j, j ≤ (v_nm (x_A X)) → VM g mX10_follows 24 [(3, .int (nI j)), (2, .int (nI (btTo (fun m => !decide (dC (x_A X) (iN c) m = gV (x_A X) (iN c) m)) j))), (0, .ref (b)), (1, .int (nI (iN c)))] [] S iv17 lw17 Q := by
      refine up_ind fun j hj ih24 => ?_
      refine V_iload_n (i := 3) dX10_follows_24 rfl 0 rfl ?_
      refine V_aload_n (i := 0) dX10_follows_25 rfl 2 rfl ?_
      refine M_getI (x := nI (v_nm (x_A X))) dX10_follows_26 lf_X10_98 rfl hb.1 (hA2.nm) ?_
      refine V_icmp_ge (tgt := 63) dX10_follows_29 rfl (fun h29 => ?_) (fun h29 => ?_)
      · have h29 : (v_nm (x_A X)) ≤ j := (nI_leI (by omega) (by omega)).mp h29
        refine V_iload_n (i := 2) dX10_follows_63 rfl 1 rfl ?_
        refine V_iret dX10_follows_64 ⟨rfl, rfl⟩ (Nat.zero_le _) (Nat.zero_le _) ?_
        subst hQ
        obtain rfl : j = v_nm (x_A X) := by omega
        exact ⟨_, _, _, rfl, rfl, by unfold o_follows; rw [if_neg (fun z => z h5)]; exact MP.ma hX hk hM hL⟩
      · have h29 : ¬ (v_nm (x_A X)) ≤ j := fun q => h29 ((nI_leI (by omega) (by omega)).mpr q)
        refine V_iload_n (i := 2) dX10_follows_32 rfl 1 rfl ?_
        refine V_aload_n (i := 0) dX10_follows_33 rfl 2 rfl ?_
        refine M_getR dX10_follows_34 lf_X10_82 rfl hb.1 hb.2.2.2.2.2.2.2.2.2.2.2.2.2.2.2.2.2.2.2.2.1.1 ?_
        refine V_iload_n (i := 3) dX10_follows_37 rfl 0 rfl ?_
        refine M_ialdn (j := j) (x := oI (dC (x_A X) (iN c) j)) dX10_follows_38 hb.2.2.2.2.2.2.2.2.2.2.2.2.2.2.2.2.2.2.2.2.1.2 (by decide) (by omega) ((hD j (by omega)).2) ?_
        refine V_aload_n (i := 0) dX10_follows_39 rfl 2 rfl ?_
        refine M_getR dX10_follows_40 lf_X10_85 rfl hb.1 hb.2.2.2.2.2.2.2.2.2.2.2.2.2.2.2.2.2.2.2.2.2.1.1 ?_
        refine V_iload_n (i := 3) dX10_follows_43 rfl 0 rfl ?_
        refine M_ialdn (j := j) (x := oI (gV (x_A X) (iN c) j)) dX10_follows_44 hb.2.2.2.2.2.2.2.2.2.2.2.2.2.2.2.2.2.2.2.2.2.1.2 (by decide) (by omega) ((hD j (by omega)).1) ?_
        refine V_icmp_eq (tgt := 54) dX10_follows_45 rfl (fun h45 => ?_) (fun h45 => ?_)
        · have h45 : dC (x_A X) (iN c) j = gV (x_A X) (iN c) j := (oI_inj (fun k hk => by have := dC_nc (V := x_A X) (c := iN c) j (by omega) k hk; omega) (fun k hk => gV_lt hv k hk)).mp h45
          refine V_iconst (v := nI 0) dX10_follows_54 rfl ?_
          refine V_ior dX10_follows_55 ?_
          refine M_top (x2 := nI (btTo (fun m => !decide (dC (x_A X) (iN c) m = gV (x_A X) (iN c) m)) j)) (or_0 _) ?_
          refine V_istore_n (lv2 := [(2, .int (nI (btTo (fun m => !decide (dC (x_A X) (iN c) m = gV (x_A X) (iN c) m)) j))), (3, .int (nI j)), (0, .ref (b)), (1, .int (nI (iN c)))]) dX10_follows_56 rfl (by decide) rfl ?_
          refine V_iinc (v := nI (j + 1)) (lv2 := [(3, .int (nI (j + 1))), (2, .int (nI (btTo (fun m => !decide (dC (x_A X) (iN c) m = gV (x_A X) (iN c) m)) j))), (0, .ref (b)), (1, .int (nI (iN c)))]) dX10_follows_57 1 rfl (nI_inc _) (by decide) rfl ?_
          refine V_goto (tgt := 24) dX10_follows_60 rfl ?_
          refine V_sub [0, 1, 2, 3] rfl ?_
          exact M_at (ih24 (by omega)) (by rw [bt_f (p := (fun m => !decide (dC (x_A X) (iN c) m = gV (x_A X) (iN c) m))) (nd_f h45)]; rfl) rfl (rfl) (rfl)
        · have h45 : ¬ dC (x_A X) (iN c) j = gV (x_A X) (iN c) j := fun z => h45 ((oI_inj (fun k hk => by have := dC_nc (V := x_A X) (c := iN c) j (by omega) k hk; omega) (fun k hk => gV_lt hv k hk)).mpr z)
          refine V_iconst (v := nI 1) dX10_follows_48 rfl ?_
          refine V_iload_n (i := 3) dX10_follows_49 rfl 0 rfl ?_
          refine V_ishl dX10_follows_50 ?_
          refine M_top (x2 := nI (2 ^ j)) (shl1 (by omega) rfl) ?_
          refine V_goto (tgt := 55) dX10_follows_51 rfl ?_
          refine V_ior dX10_follows_55 ?_
          refine M_top (x2 := nI (btTo (fun m => !decide (dC (x_A X) (iN c) m = gV (x_A X) (iN c) m)) j ||| 2 ^ j)) (nI_or _ _) ?_
          refine V_istore_n (lv2 := [(2, .int (nI (btTo (fun m => !decide (dC (x_A X) (iN c) m = gV (x_A X) (iN c) m)) j ||| 2 ^ j))), (3, .int (nI j)), (0, .ref (b)), (1, .int (nI (iN c)))]) dX10_follows_56 rfl (by decide) rfl ?_
          refine V_iinc (v := nI (j + 1)) (lv2 := [(3, .int (nI (j + 1))), (2, .int (nI (btTo (fun m => !decide (dC (x_A X) (iN c) m = gV (x_A X) (iN c) m)) j ||| 2 ^ j))), (0, .ref (b)), (1, .int (nI (iN c)))]) dX10_follows_57 1 rfl (nI_inc _) (by decide) rfl ?_
          refine V_goto (tgt := 24) dX10_follows_60 rfl ?_
          refine V_sub [0, 1, 2, 3] rfl ?_
          exact M_at (ih24 (by omega)) (by rw [bt_t (p := (fun m => !decide (dC (x_A X) (iN c) m = gV (x_A X) (iN c) m))) (nd_t h45)]; rfl) rfl (rfl) (rfl)
    refine V_sub [0, 1, 2, 3] rfl ?_
    exact M_at (lp24 0 (Nat.zero_le _)) (rfl) rfl (rfl) (rfl)
  · have h5 : ¬ (inR c (v_nc (x_A X))) := bI_eq0.mp h5
    refine V_aload_n (i := 0) dX10_follows_8 rfl 0 rfl ?_
    refine V_bipush (v := (-2)) dX10_follows_9 rfl ?_
    refine M_callVq (As := [.int ((-2))]) (st := []) dX10_follows_11 lv_X10_107 ⟨by decide, by decide⟩ ⟨rfl, rfl⟩ rfl (ci := 7) hb.1 rfl rfl (Nat.le_of_ble_eq_true rfl) (q_refuse hs hX hk (j := 0) (by decide)) (fun w11 iv11 lw11 q11 => ?_)
    obtain ⟨rfl, e1, hXr, hOr⟩ := q11
    subst e1
    refine V_iret dX10_follows_14 ⟨rfl, rfl⟩ (Nat.zero_le _) (Nat.zero_le _) ?_
    subst hQ
    exact ⟨_, _, _, rfl, rfl, by unfold o_follows; rw [if_pos h5]; exact ⟨rfl, hXr, hOr, Off.rf⟩⟩
set_option maxRecDepth 20000 in
theorem r_below {g : Ev} {S : St} {iv : IV} {lw : LW} {b : Nat} (hb : IsMod S b) {V : Cv} (hV : MC iv b V) (hv : VOK V) {m : Nat} (hm : 0 < m) (hm2 : m ≤ 1000) : CQ g mX10_below [.ref (b), .int (nI m)] S iv lw (fun w iv2 lw2 => w = .int (nI (drw (v_se V) % m)) ∧ lw = lw2 ∧ MC iv2 b (v_setD V (nxt (v_se V))) ∧ MSd b iv iv2) := by
  refine CT_ofQ rfl (by decide) (Nat.le_of_ble_eq_true rfl) (lv := [(0, .ref (b)), (1, .int (nI m))]) rfl (fun Q hQ => ?_)
  have hnc := hv.nc
  have hne := hv.ne
  have hnm := hv.nm
  have hdr := drw_lt (v_se V)
  refine V_aload_n (i := 0) dX10_below_0 rfl 0 rfl ?_
  refine V_aload_n (i := 0) dX10_below_1 rfl 0 rfl ?_
  refine M_getI (x := v_se V) dX10_below_2 lf_X10_70 rfl hb.1 (hV.se) ?_
  refine V_ldcw (v := nI 1103515245) dX10_below_5 mw_1622 ?_
  refine V_imul dX10_below_8 ?_
  refine V_sipush (v := nI 12345) dX10_below_9 rfl ?_
  refine V_iadd dX10_below_12 ?_
  refine M_top (x2 := nxt (v_se V)) (rfl) ?_
  refine M_putI dX10_below_13 lf_X10_70 rfl hb.1 ⟨rfl, rfl⟩ ?_
  refine V_aload_n (i := 0) dX10_below_16 rfl 0 rfl ?_
  refine M_getI (x := nxt (v_se V)) dX10_below_17 lf_X10_70 rfl hb.1 (up2_s) ?_
  refine V_bipush (v := nI 16) dX10_below_20 rfl ?_
  refine V_iushr dX10_below_22 ?_
  refine M_top (x2 := nI (drw (v_se V))) ((u16 _).trans rfl) ?_
  refine V_iload_n (i := 1) dX10_below_23 rfl 1 rfl ?_
  refine V_irem dX10_below_24 (nI_ne0 (by omega) (by omega)) ?_
  refine M_top (x2 := nI (drw (v_se V) % m)) (pk_rem (by omega) (by omega) (by omega)) ?_
  refine V_iret dX10_below_25 ⟨rfl, rfl⟩ (Nat.zero_le _) (Nat.zero_le _) ?_
  subst hQ
  exact ⟨_, _, _, rfl, rfl, rfl, rfl, mc_setD hV hnc, fun a k h => up2_o h⟩
theorem r_belowAt {g : Ev} {S : St} {iv : IV} {lw : LW} {b : Nat} (hb : IsMod S b) {V : Cv} (hv : VOK V) {j : Nat} (hV : MC iv b (atV V j)) : CQ g mX10_below [.ref b, .int (nI 100)] S iv lw (fun w iv2 lw2 => w = .int (nI (drw (sdAt (v_se V) j) % 100)) ∧ lw = lw2 ∧ MC iv2 b (atV V (j + 1)) ∧ MSd b iv iv2) := by
  have h := r_below (g := g) (lw := lw) hb hV (vok_D hv) (m := 100) (by omega) (by omega)
  rw [atV_s, atV_se] at h
  exact h
set_option maxRecDepth 20000 in
theorem r_sounded {g : Ev} {S : St} {iv : IV} {lw : LW} {b : Nat} (hb : IsMod S b) {V : Cv} (hV : MC iv b V) (hv : VOK V) {c : Nat} (hc : c < v_nc V) : CQ g mX10_sounded [.ref (b), .int (nI c)] S iv lw (fun w iv2 lw2 => w = .int (nI (cntTo (goneB V) (v_sz V c))) ∧ MC iv2 b (atV V (v_sz V c)) ∧ MH iv2 lw2 b (v_sz V c, false, sndN V c) ∧ MB b iv iv2 ∧ Off (b + 38) 1 lw lw2) := by
  refine CT_ofQ rfl (by decide) (Nat.le_of_ble_eq_true rfl) (lv := [(0, .ref (b)), (1, .int (nI c))]) rfl (fun Q hQ => ?_)
  have hnc := hv.nc
  have hne := hv.ne
  have hnm := hv.nm
  have hs8 := hv.sz hc
  refine V_iconst (v := nI 0) dX10_sounded_0 rfl ?_
  refine V_istore_n (lv2 := [(2, .int (nI 0)), (0, .ref (b)), (1, .int (nI c))]) dX10_sounded_1 rfl (by decide) rfl ?_
  refine V_aload_n (i := 0) dX10_sounded_2 rfl 1 rfl ?_
  refine V_aload_n (i := 0) dX10_sounded_3 rfl 1 rfl ?_
  refine M_getR dX10_sounded_4 lf_X10_42 rfl hb.1 hb.2.2.2.2.2.2.2.2.2.2.1.1 ?_
  refine V_iload_n (i := 1) dX10_sounded_7 rfl 2 rfl ?_
  refine M_ialdn (j := c) (x := nI (v_sz V c)) dX10_sounded_8 hb.2.2.2.2.2.2.2.2.2.2.1.2 (by decide) (by omega) (hV.sz (c := c) (by omega)) ?_
  refine M_putI dX10_sounded_9 lf_X10_262 rfl hb.1 ⟨rfl, rfl⟩ ?_
  refine V_aload_n (i := 0) dX10_sounded_12 rfl 1 rfl ?_
  refine V_iconst (v := nI 0) dX10_sounded_13 rfl ?_
  refine M_putI dX10_sounded_14 lf_X10_258 rfl hb.1 ⟨rfl, rfl⟩ ?_
  refine V_iconst (v := nI 0) dX10_sounded_17 rfl ?_
  refine V_istore_n (lv2 := [(3, .int (nI 0)), (2, .int (nI 0)), (0, .ref (b)), (1, .int (nI c))]) dX10_sounded_18 rfl (by decide) rfl ?_
  have lp19 : ∀ j, j ≤ (v_sz V c) → ∀ (iv2 : IV) (lw2 : LW), MC iv2 b (atV V j) → MB b iv iv2 → iv2 b 33 = nI (v_sz V c) → iv2 b 34 = bI (false = true) → (∀ k, k < j → lw2 (b + 38) k = lN (sndN V c k)) → Off (b + 38) 1 lw lw2 → VM g mX10_sounded 19 [(3, .int (nI j)), (2, .int (nI (cntTo (goneB V) j))), (0, .ref (b)), (1, .int (nI c))] [] S iv2 lw2 Q := by
    refine up_ind fun j hj ih19 => ?_
    intro iv2 lw2 hA2 hB h33 h34 hrw hL
    have hl100 := hv.lo
    refine V_iload_n (i := 3) dX10_sounded_19 rfl 0 rfl ?_
    refine V_aload_n (i := 0) dX10_sounded_20 rfl 2 rfl ?_
    refine M_getI (x := nI (v_sz V c)) dX10_sounded_21 lf_X10_262 rfl hb.1 (h33) ?_
    refine V_icmp_ge (tgt := 92) dX10_sounded_24 rfl (fun h24 => ?_) (fun h24 => ?_)
    · have h24 : (v_sz V c) ≤ j := (nI_leI (by omega) (by omega)).mp h24
      refine V_iload_n (i := 2) dX10_sounded_92 rfl 1 rfl ?_
      refine V_iret dX10_sounded_93 ⟨rfl, rfl⟩ (Nat.zero_le _) (Nat.zero_le _) ?_
      subst hQ
      obtain rfl : j = v_sz V c := by omega
      exact ⟨_, _, _, rfl, rfl, rfl, hA2, ⟨⟨hs8, fun k hk => snd_9 hv hc hk⟩, h33, h34, hrw⟩, hB, hL⟩
    · have h24 : ¬ (v_sz V c) ≤ j := fun q => h24 ((nI_leI (by omega) (by omega)).mpr q)
      refine V_aload_n (i := 0) dX10_sounded_27 rfl 2 rfl ?_
      refine V_bipush (v := nI 100) dX10_sounded_28 rfl ?_
      refine M_callVq (As := [.int (nI 100)]) (st := []) dX10_sounded_30 lv_X10_336 ⟨by decide, by decide⟩ ⟨rfl, rfl⟩ rfl (ci := 7) hb.1 rfl rfl (Nat.le_of_ble_eq_true rfl) (r_belowAt hb hv hA2) (fun w30 iv30 lw30 q30 => ?_)
      obtain ⟨rfl, e1, hA30, hS30⟩ := q30
      subst e1
      have hd100 := Nat.mod_lt (drw (sdAt (v_se V) j)) (show 0 < 100 by omega)
      refine V_aload_n (i := 0) dX10_sounded_33 rfl 2 rfl ?_
      refine M_getI (x := nI (v_lo V)) dX10_sounded_34 lf_X10_67 rfl hb.1 (mat_lo hA30) ?_
      refine V_icmp_ge (tgt := 44) dX10_sounded_37 rfl (fun h37 => ?_) (fun h37 => ?_)
      · have h37 : (v_lo V) ≤ (drw (sdAt (v_se V) j) % 100) := (nI_leI (by omega) (by omega)).mp h37
        refine V_iconst (v := nI 0) dX10_sounded_44 rfl ?_
        refine V_istore (lv2 := [(4, .int (nI 0)), (3, .int (nI j)), (2, .int (nI (cntTo (goneB V) j))), (0, .ref (b)), (1, .int (nI c))]) dX10_sounded_45 (by decide) rfl ?_
        refine V_aload_n (i := 0) dX10_sounded_47 rfl 3 rfl ?_
        refine M_getR dX10_sounded_48 lf_X10_76 rfl hb.1 hb.2.2.2.2.2.2.2.2.2.2.2.2.2.2.2.2.2.2.1.1 ?_
        refine V_iload_n (i := 3) dX10_sounded_51 rfl 1 rfl ?_
        refine V_iload dX10_sounded_52 0 rfl ?_
        refine V_if_eq (tgt := 63) dX10_sounded_54 rfl (fun _ => ?_) (fun q => absurd (by decide) q)
        refine V_aload_n (i := 0) dX10_sounded_63 rfl 3 rfl ?_
        refine M_getR dX10_sounded_64 lf_X10_39 rfl hb.1 hb.2.2.2.2.2.2.2.2.2.1.1 ?_
        refine V_iload_n (i := 1) dX10_sounded_67 rfl 4 rfl ?_
        refine M_aaldn (t := 1) (j := c) dX10_sounded_68 (by decide) hb.2.2.2.2.2.2.2.2.2.1.2 (by decide) (by omega) ((hb.2.2.2.2.2.2.2.2.2.2.2.2.2.2.2.2.2.2.2.2.2.2.2 c (by omega)).1) ?_
        refine V_iload_n (i := 3) dX10_sounded_69 rfl 1 rfl ?_
        refine M_ialdn (j := j) (x := nI (v_nt V c j)) dX10_sounded_70 (hb.2.2.2.2.2.2.2.2.2.2.2.2.2.2.2.2.2.2.2.2.2.2.2 c (by omega)).2 (by decide) (by omega) (mat_nt hA30 (c := c) (i := j) (by omega) (by omega)) ?_
        have hn4 := hv.nt hc (i := j) (by omega)
        refine V_i2l dX10_sounded_71 ?_
        refine M_topL (x2 := lN (v_nt V c j)) (n64w (by omega)) ?_
        refine M_lastn (j := j) dX10_sounded_72 hb.2.2.2.2.2.2.2.2.2.2.2.2.2.2.2.2.2.2.1.2 (by decide) (by omega) ?_
        refine V_iload_n (i := 2) dX10_sounded_73 rfl 2 rfl ?_
        refine V_iload dX10_sounded_74 0 rfl ?_
        refine V_if_eq (tgt := 83) dX10_sounded_76 rfl (fun _ => ?_) (fun q => absurd (by decide) q)
        refine V_iconst (v := nI 0) dX10_sounded_83 rfl ?_
        refine V_iadd dX10_sounded_84 ?_
        refine M_top (nI_add _ _) ?_
        refine V_istore_n (lv2 := [(2, .int (nI ((cntTo (goneB V) j) + 0))), (4, .int (nI 0)), (3, .int (nI j)), (0, .ref (b)), (1, .int (nI c))]) dX10_sounded_85 rfl (by decide) rfl ?_
        refine V_iinc (v := nI (j + 1)) (lv2 := [(3, .int (nI (j + 1))), (2, .int (nI ((cntTo (goneB V) j) + 0))), (4, .int (nI 0)), (0, .ref (b)), (1, .int (nI c))]) dX10_sounded_86 2 rfl (nI_inc _) (by decide) rfl ?_
        refine V_goto (tgt := 19) dX10_sounded_89 rfl ?_
        refine V_sub [0, 1, 3, 4] rfl ?_
        exact M_at (ih19 (by omega) iv30 _ hA30 (fun a k p1 p2 => (hS30 a k (fun z => (p1 z.1).2.2.2.2.2.1 z.2)).trans (hB a k p1 p2)) ((hS30 _ _ (by omega)).trans h33) ((hS30 _ _ (by omega)).trans h34) (rowAddL (f := fun k => lN (sndN V c k)) hrw (snd_f h37)) (hL.up (by omega) (by omega))) (by rw [cntTo_f (goneB_f h37)]; rfl) rfl (rfl) (rfl)
      · have h37 : ¬ (v_lo V) ≤ (drw (sdAt (v_se V) j) % 100) := fun q => h37 ((nI_leI (by omega) (by omega)).mpr q)
        refine V_iconst (v := nI 1) dX10_sounded_40 rfl ?_
        refine V_goto (tgt := 45) dX10_sounded_41 rfl ?_
        refine V_istore (lv2 := [(4, .int (nI 1)), (3, .int (nI j)), (2, .int (nI (cntTo (goneB V) j))), (0, .ref (b)), (1, .int (nI c))]) dX10_sounded_45 (by decide) rfl ?_
        refine V_aload_n (i := 0) dX10_sounded_47 rfl 3 rfl ?_
        refine M_getR dX10_sounded_48 lf_X10_76 rfl hb.1 hb.2.2.2.2.2.2.2.2.2.2.2.2.2.2.2.2.2.2.1.1 ?_
        refine V_iload_n (i := 3) dX10_sounded_51 rfl 1 rfl ?_
        refine V_iload dX10_sounded_52 0 rfl ?_
        refine V_if_eq (tgt := 63) dX10_sounded_54 rfl (fun q => absurd q (by decide)) (fun _ => ?_)
        refine V_ldc2 (v := lN 9) dX10_sounded_57 mw_1290 ?_
        refine V_goto (tgt := 72) dX10_sounded_60 rfl ?_
        refine M_lastn (j := j) dX10_sounded_72 hb.2.2.2.2.2.2.2.2.2.2.2.2.2.2.2.2.2.2.1.2 (by decide) (by omega) ?_
        refine V_iload_n (i := 2) dX10_sounded_73 rfl 2 rfl ?_
        refine V_iload dX10_sounded_74 0 rfl ?_
        refine V_if_eq (tgt := 83) dX10_sounded_76 rfl (fun q => absurd q (by decide)) (fun _ => ?_)
        refine V_iconst (v := nI 1) dX10_sounded_79 rfl ?_
        refine V_goto (tgt := 84) dX10_sounded_80 rfl ?_
        refine V_iadd dX10_sounded_84 ?_
        refine M_top (nI_add _ _) ?_
        refine V_istore_n (lv2 := [(2, .int (nI ((cntTo (goneB V) j) + 1))), (4, .int (nI 1)), (3, .int (nI j)), (0, .ref (b)), (1, .int (nI c))]) dX10_sounded_85 rfl (by decide) rfl ?_
        refine V_iinc (v := nI (j + 1)) (lv2 := [(3, .int (nI (j + 1))), (2, .int (nI ((cntTo (goneB V) j) + 1))), (4, .int (nI 1)), (0, .ref (b)), (1, .int (nI c))]) dX10_sounded_86 2 rfl (nI_inc _) (by decide) rfl ?_
        refine V_goto (tgt := 19) dX10_sounded_89 rfl ?_
        refine V_sub [0, 1, 3, 4] rfl ?_
        exact M_at (ih19 (by omega) iv30 _ hA30 (fun a k p1 p2 => (hS30 a k (fun z => (p1 z.1).2.2.2.2.2.1 z.2)).trans (hB a k p1 p2)) ((hS30 _ _ (by omega)).trans h33) ((hS30 _ _ (by omega)).trans h34) (rowAddL (f := fun k => lN (sndN V c k)) hrw (snd_t h37)) (hL.up (by omega) (by omega))) (by rw [cntTo_t (goneB_t h37)]; rfl) rfl (rfl) (rfl)
  refine V_sub [0, 1, 2, 3] rfl ?_
  exact M_at (lp19 0 (Nat.zero_le _) _ lw ((hV.ma hv ((MA.rf.up (a := b) (k := 33) (v := nI (v_sz V c)) (by omega)).up (a := b) (k := 34) (v := nI 0) (by omega)))) ((MB.rf.up (by omega)).up (by omega)) ((up2_k (by decide)).trans up2_s) (up2_s.trans (bI_f (show ¬ false = true by decide)).symm) (fun k hk => absurd hk (by omega)) Off.rf) (rfl) rfl (rfl) (rfl)
set_option maxRecDepth 20000 in
theorem q_sound {g : Ev} {S : St} {iv : IV} {lw : LW} {b : Nat} (hs : SS S b) {X : Xs} (hX : MX S iv lw b X) (hk : XOK X) {c : Int32} {s : Int32} : CQ g mX10_sound [.ref (b), .int (c), .int (s)] S iv lw (fun w iv2 lw2 => MP S b iv lw (o_sound X c s) w iv2 lw2) := by
  refine CT_ofQ rfl (by decide) (Nat.le_of_ble_eq_true rfl) (lv := [(0, .ref (b)), (1, .int (c)), (2, .int (s))]) rfl (fun Q hQ => ?_)
  have hb := hs.1
  have hA := hX.1
  have hv := hk.1
  have hnc := hv.nc
  have hne := hv.ne
  have hnm := hv.nm
  refine V_aload_n (i := 0) dX10_sound_0 rfl 0 rfl ?_
  refine V_iload_n (i := 1) dX10_sound_1 rfl 1 rfl ?_
  refine M_callVp (As := [.int (c)]) (st := []) dX10_sound_2 lv_X10_155 ⟨by decide, by decide⟩ ⟨rfl, rfl⟩ rfl (ci := 7) hb.1 rfl rfl (Nat.le_of_ble_eq_true rfl) (r_isCall hb hA hv) ?_
  refine V_if_eq (tgt := 20) dX10_sound_5 rfl (fun h5 => ?_) (fun h5 => ?_)
  · have h5 : ¬ (inR c (v_nc (x_A X))) := bI_eq0.mp h5
    refine V_aload_n (i := 0) dX10_sound_20 rfl 0 rfl ?_
    refine V_bipush (v := (-2)) dX10_sound_21 rfl ?_
    refine M_callVq (As := [.int ((-2))]) (st := []) dX10_sound_23 lv_X10_107 ⟨by decide, by decide⟩ ⟨rfl, rfl⟩ rfl (ci := 7) hb.1 rfl rfl (Nat.le_of_ble_eq_true rfl) (q_refuse hs hX hk (j := 0) (by decide)) (fun w23 iv23 lw23 q23 => ?_)
    obtain ⟨rfl, e1, hXr, hOr⟩ := q23
    subst e1
    refine V_iret dX10_sound_26 ⟨rfl, rfl⟩ (Nat.zero_le _) (Nat.zero_le _) ?_
    subst hQ
    exact ⟨_, _, _, rfl, rfl, by unfold o_sound; rw [if_pos (fun z => h5 z.1)]; exact ⟨rfl, hXr, hOr, Off.rf⟩⟩
  · have h5 : inR c (v_nc (x_A X)) := bI_ne.mp h5
    refine V_iload_n (i := 2) dX10_sound_8 rfl 2 rfl ?_
    refine V_i2l dX10_sound_9 ?_
    refine V_lconst (v := lN 0) dX10_sound_10 rfl ?_
    refine V_ldc2 (v := lN 7) dX10_sound_11 mw_1215 ?_
    refine M_callSp (As := [.long ((s).toInt64), .long (lN 0), .long (lN 7)]) (st := []) dX10_sound_14 ls_X10_91 ⟨by decide, by decide⟩ ⟨rfl, rfl⟩ rfl (Nat.le_of_ble_eq_true rfl) (r_in8) ?_
    refine V_if_ne (tgt := 27) dX10_sound_17 rfl (fun h17 => ?_) (fun h17 => ?_)
    · have h17 : inR s 8 := bI_ne.mp h17
      have cc := iN_eq (k := c) (by omega)
      have cs := iN_eq (k := s) (by omega)
      have dc := iN_i (k := c) (by omega)
      have ds := iN_i (k := s) (by omega)
      refine M_at (lv2 := [(0, .ref (b)), (1, .int (nI (iN c))), (2, .int (nI (iN s)))]) (st2 := []) ?_ (by rw [← cc, ← cs]) rfl rfl rfl
      refine V_aload_n (i := 0) dX10_sound_27 rfl 0 rfl ?_
      refine V_iload_n (i := 1) dX10_sound_28 rfl 1 rfl ?_
      have hs8 := hv.sz (c := iN c) (by omega)
      refine M_callVq (As := [.int (nI (iN c))]) (st := []) dX10_sound_29 lv_X10_339 ⟨by decide, by decide⟩ ⟨rfl, rfl⟩ rfl (ci := 7) hb.1 rfl rfl (Nat.le_of_ble_eq_true rfl) (r_sounded hb hA hv (c := iN c) (by omega)) (fun w29 iv29 lw29 q29 => ?_)
      obtain ⟨rfl, hA29, hH29, hB29, hL29⟩ := q29
      have hX2 := hX.now hk hA29 hB29 hL29
      refine V_istore_n (lv2 := [(3, .int (nI (cntTo (goneB (x_A X)) (v_sz (x_A X) (iN c))))), (0, .ref (b)), (1, .int (nI (iN c))), (2, .int (nI (iN s)))]) dX10_sound_32 rfl (by decide) rfl ?_
      refine V_aload_n (i := 0) dX10_sound_33 rfl 1 rfl ?_
      refine V_iload_n (i := 2) dX10_sound_34 rfl 3 rfl ?_
      refine V_iconst (v := nI 0) dX10_sound_35 rfl ?_
      refine V_aload_n (i := 0) dX10_sound_36 rfl 1 rfl ?_
      refine M_getR dX10_sound_37 lf_X10_42 rfl hb.1 hb.2.2.2.2.2.2.2.2.2.2.1.1 ?_
      refine V_iload_n (i := 1) dX10_sound_40 rfl 2 rfl ?_
      refine M_ialdn (j := (iN c)) (x := nI (v_sz (x_A X) (iN c))) dX10_sound_41 hb.2.2.2.2.2.2.2.2.2.2.1.2 (by decide) (by omega) (mat_sz hA29 (c := (iN c)) (by omega)) ?_
      refine M_callVn (As := [.int (nI (iN s)), .int (nI 0), .int (nI (v_sz (x_A X) (iN c)))]) (st := []) dX10_sound_42 lv_X10_111 ⟨by decide, by decide⟩ ⟨rfl, rfl⟩ rfl (ci := 7) hb.1 rfl rfl (Nat.le_of_ble_eq_true rfl) (r_becomesRow hb (j := iN s) (m := (v_sz (x_A X) (iN c))) (c := nI 0) (by omega)) (fun iv42 lw42 q42 => ?_)
      obtain ⟨rfl, hZ, hLb⟩ := q42
      refine V_iconst (v := nI 0) dX10_sound_45 rfl ?_
      refine V_istore (lv2 := [(4, .int (nI 0)), (3, .int (nI (cntTo (goneB (x_A X)) (v_sz (x_A X) (iN c))))), (0, .ref (b)), (1, .int (nI (iN c))), (2, .int (nI (iN s)))]) dX10_sound_46 (by decide) rfl ?_
      have lp48 : ∀ j, j ≤ (v_sz (x_A X) (iN c)) → ∀ lw2 : LW, (∀ k, k < j → lw2 (b + 5 + iN s) k = lN (sndN (x_A X) (iN c) k)) → Off (b + 5 + iN s) 1 lw29 lw2 → VM g mX10_sound 48 [(4, .int (nI j)), (3, .int (nI (cntTo (goneB (x_A X)) (v_sz (x_A X) (iN c))))), (0, .ref (b)), (1, .int (nI (iN c))), (2, .int (nI (iN s)))] [] S (up2 (up2 (up2 iv29 (b + 1) (iN s) (nI 1)) (b + 2) (iN s) (nI 0)) (b + 3) (iN s) (nI (v_sz (x_A X) (iN c)))) lw2 Q := by
        refine up_ind fun j hj ih48 => ?_
        intro lw2 hrw hL2
        refine V_iload dX10_sound_48 0 rfl ?_
        refine V_aload_n (i := 0) dX10_sound_50 rfl 2 rfl ?_
        refine M_getR dX10_sound_51 lf_X10_42 rfl hb.1 hb.2.2.2.2.2.2.2.2.2.2.1.1 ?_
        refine V_iload_n (i := 1) dX10_sound_54 rfl 3 rfl ?_
        refine M_ialdn (j := (iN c)) (x := nI (v_sz (x_A X) (iN c))) dX10_sound_55 hb.2.2.2.2.2.2.2.2.2.2.1.2 (by decide) (by omega) ((up2_ne (by omega)).trans ((up2_ne (by omega)).trans ((up2_ne (by omega)).trans (mat_sz hA29 (c := (iN c)) (by omega))))) ?_
        refine V_icmp_ge (tgt := 81) dX10_sound_56 rfl (fun h56 => ?_) (fun h56 => ?_)
        · have h56 : (v_sz (x_A X) (iN c)) ≤ j := (nI_leI (by omega) (by omega)).mp h56
          refine V_iload_n (i := 3) dX10_sound_81 rfl 1 rfl ?_
          refine V_iret dX10_sound_82 ⟨rfl, rfl⟩ (Nat.zero_le _) (Nat.zero_le _) ?_
          subst hQ
          have hj9 : j = (v_sz (x_A X) (iN c)) := by omega
          have hM9 : MS (up2 (up2 (up2 iv29 (b + 1) (iN s) (nI 1)) (b + 2) (iN s) (nI 0)) (b + 3) (iN s) (nI (v_sz (x_A X) (iN c)))) lw2 b (iN s) (nI 0, (v_sz (x_A X) (iN c)), hearT ((v_sz (x_A X) (iN c)), true, sndN (x_A X) (iN c)) (v_sz (x_A X) (iN c))) := ms_new (iv := iv29) (c := nI 0) (by decide) (fun i hi => (hrw i (by omega)).trans (by show _ = (if i < (v_sz (x_A X) (iN c)) then lN (sndN (x_A X) (iN c) i) else lN 0); rw [if_pos hi]))
          have hXn := hX2.shelf (xok_D hk) (j := iN s) (by omega) hM9 (fun a q hq => by rw [up2_o (by omega), up2_o (by omega), up2_o (by omega)]) (fun a h1 h2 => hL2 a (by omega))
          exact ⟨_, _, _, rfl, rfl, by unfold o_sound; rw [if_neg (fun z => z ⟨h5, h17⟩)]; exact ⟨rfl, hXn, ((hB29.off.up (by omega) (by omega)).up (by omega) (by omega)).up (by omega) (by omega), (hL29.wide (by omega) (by omega)).tr (hL2.wide (by omega) (by omega))⟩⟩
        · have h56 : ¬ (v_sz (x_A X) (iN c)) ≤ j := fun q => h56 ((nI_leI (by omega) (by omega)).mpr q)
          refine V_aload_n (i := 0) dX10_sound_59 rfl 2 rfl ?_
          refine M_getR dX10_sound_60 lf_X10_21 rfl hb.1 hb.2.2.2.2.1.1 ?_
          refine V_iload_n (i := 2) dX10_sound_63 rfl 4 rfl ?_
          refine M_aaldn (t := 2) (j := (iN s)) dX10_sound_64 (by decide) hb.2.2.2.2.1.2 (by decide) (by omega) ((hb.2.2.2.2.2.2.2.2.2.2.2.2.2.2.2.2.2.2.2.2.2.2.1 (iN s) (by omega)).1) ?_
          refine V_iload dX10_sound_65 0 rfl ?_
          refine V_aload_n (i := 0) dX10_sound_67 rfl 2 rfl ?_
          refine M_getR dX10_sound_68 lf_X10_76 rfl hb.1 hb.2.2.2.2.2.2.2.2.2.2.2.2.2.2.2.2.2.2.1.1 ?_
          refine V_iload dX10_sound_71 0 rfl ?_
          refine M_laldn (j := j) (x := lN (sndN (x_A X) (iN c) j)) dX10_sound_73 hb.2.2.2.2.2.2.2.2.2.2.2.2.2.2.2.2.2.2.1.2 (by decide) (by omega) ((congrFun (hL2 _ (by omega)) _).trans (hH29.2.2.2 j (by omega))) ?_
          refine M_lastn (j := j) dX10_sound_74 (hb.2.2.2.2.2.2.2.2.2.2.2.2.2.2.2.2.2.2.2.2.2.2.1 (iN s) (by omega)).2 (by decide) (by omega) ?_
          refine V_iinc (v := nI (j + 1)) (lv2 := [(4, .int (nI (j + 1))), (3, .int (nI (cntTo (goneB (x_A X)) (v_sz (x_A X) (iN c))))), (0, .ref (b)), (1, .int (nI (iN c))), (2, .int (nI (iN s)))]) dX10_sound_75 0 rfl (nI_inc _) (by decide) rfl ?_
          refine V_goto (tgt := 48) dX10_sound_78 rfl ?_
          refine V_sub [0, 1, 2, 3, 4] rfl ?_
          exact M_at (ih48 (by omega) _ (rowAddL (f := fun k => lN (sndN (x_A X) (iN c) k)) hrw rfl) (hL2.up (by omega) (by omega))) (rfl) rfl (rfl) (rfl)
      refine V_sub [0, 1, 2, 3, 4] rfl ?_
      exact M_at (lp48 0 (Nat.zero_le _) lw42 (fun k hk => absurd hk (by omega)) hLb) (rfl) rfl (rfl) (rfl)
    · have h17 : ¬ (inR s 8) := bI_eq0.mp h17
      refine V_aload_n (i := 0) dX10_sound_20 rfl 0 rfl ?_
      refine V_bipush (v := (-2)) dX10_sound_21 rfl ?_
      refine M_callVq (As := [.int ((-2))]) (st := []) dX10_sound_23 lv_X10_107 ⟨by decide, by decide⟩ ⟨rfl, rfl⟩ rfl (ci := 7) hb.1 rfl rfl (Nat.le_of_ble_eq_true rfl) (q_refuse hs hX hk (j := 0) (by decide)) (fun w23 iv23 lw23 q23 => ?_)
      obtain ⟨rfl, e1, hXr, hOr⟩ := q23
      subst e1
      refine V_iret dX10_sound_26 ⟨rfl, rfl⟩ (Nat.zero_le _) (Nat.zero_le _) ?_
      subst hQ
      exact ⟨_, _, _, rfl, rfl, by unfold o_sound; rw [if_pos (fun z => h17 z.2)]; exact ⟨rfl, hXr, hOr, Off.rf⟩⟩
set_option maxRecDepth 20000 in
theorem q_days {g : Ev} {S : St} {iv : IV} {lw : LW} {b : Nat} (hs : SS S b) {X : Xs} (hX : MX S iv lw b X) (hk : XOK X) {m : Int32} : CQ g mX10_days [.ref (b), .int (m)] S iv lw (fun w iv2 lw2 => MP S b iv lw (o_days X m) w iv2 lw2) := by
  refine CT_ofQ rfl (by decide) (Nat.le_of_ble_eq_true rfl) (lv := [(0, .ref (b)), (1, .int (m))]) rfl (fun Q hQ => ?_)
  have hb := hs.1
  have hA := hX.1
  have hv := hk.1
  have hnc := hv.nc
  have hne := hv.ne
  have hnm := hv.nm
  refine V_iload_n (i := 1) dX10_days_0 rfl 1 rfl ?_
  refine V_i2l dX10_days_1 ?_
  refine V_lconst (v := lN 1) dX10_days_2 rfl ?_
  refine V_ldc2 (v := lN 99) dX10_days_3 mw_1281 ?_
  refine M_callSp (As := [.long ((m).toInt64), .long (lN 1), .long (lN 99)]) (st := []) dX10_days_6 ls_X10_91 ⟨by decide, by decide⟩ ⟨rfl, rfl⟩ rfl (Nat.le_of_ble_eq_true rfl) (r_inK (by decide) (by decide)) ?_
  refine V_if_ne (tgt := 19) dX10_days_9 rfl (fun h9 => ?_) (fun h9 => ?_)
  · have h9 : (1 : Int) ≤ m.toInt ∧ m.toInt ≤ 99 := bI_ne.mp h9
    refine V_aload_n (i := 0) dX10_days_19 rfl 0 rfl ?_
    refine M_getI (x := nI (v_nc (x_A X))) dX10_days_20 lf_X10_88 rfl hb.1 (hA.nc) ?_
    refine V_if_ne (tgt := 33) dX10_days_23 rfl (fun h23 => ?_) (fun h23 => ?_)
    · have h23 : ¬ (v_nc (x_A X)) = 0 := fun q => h23 ((nI_eq (b := 0) (by omega) (by omega)).mpr q)
      have cm := iN_eq (k := m) (by omega)
      have dm := iN_i (k := m) (by omega)
      refine M_at (lv2 := [(0, .ref (b)), (1, .int (nI (iN m)))]) (st2 := []) ?_ (by rw [← cm]) rfl rfl rfl
      refine V_iconst (v := nI 0) dX10_days_33 rfl ?_
      refine V_istore_n (lv2 := [(2, .int (nI 0)), (0, .ref (b)), (1, .int (nI (iN m)))]) dX10_days_34 rfl (by decide) rfl ?_
      refine V_iconst (v := nI 0) dX10_days_35 rfl ?_
      refine V_istore_n (lv2 := [(3, .int (nI 0)), (2, .int (nI 0)), (0, .ref (b)), (1, .int (nI (iN m)))]) dX10_days_36 rfl (by decide) rfl ?_
      have lp37 : ∀ j, j ≤ (iN m) → ∀ (iv2 : IV) (lw2 : LW), MC iv2 b (dyTo (x_A X) j).1 → MB b iv iv2 → Off (b + 38) 1 lw lw2 → VM g mX10_days 37 [(3, .int (nI j)), (2, .int (nI ((dyTo (x_A X) j).2))), (0, .ref (b)), (1, .int (nI (iN m)))] [] S iv2 lw2 Q := by
        refine up_ind fun j hj ih37 => ?_
        intro iv2 lw2 hA2 hB hL
        have hW0 : 0 < v_nc (dyTo (x_A X) j).1 := by rw [dy_nc]; omega
        have hvW := dy_ok hv j
        have hW12 := hvW.nc
        refine V_iload_n (i := 3) dX10_days_37 rfl 0 rfl ?_
        refine V_iload_n (i := 1) dX10_days_38 rfl 3 rfl ?_
        refine V_icmp_ge (tgt := 82) dX10_days_39 rfl (fun h39 => ?_) (fun h39 => ?_)
        · have h39 : (iN m) ≤ j := (nI_leI (by omega) (by omega)).mp h39
          refine V_iload_n (i := 2) dX10_days_82 rfl 1 rfl ?_
          refine V_iret dX10_days_83 ⟨rfl, rfl⟩ (Nat.zero_le _) (Nat.zero_le _) ?_
          subst hQ
          have hXn := hX.now hk hA2 hB hL
          have hj9 : j = iN m := by omega
          rw [hj9] at hXn
          exact ⟨_, _, _, rfl, rfl, by unfold o_days; rw [if_neg (by omega), if_neg (by omega), ← hj9]; rw [← hj9] at hXn; exact ⟨rfl, hXn, hB.off, hL.wide (by omega) (by omega)⟩⟩
        · have h39 : ¬ (iN m) ≤ j := fun q => h39 ((nI_leI (by omega) (by omega)).mpr q)
          refine V_aload_n (i := 0) dX10_days_42 rfl 2 rfl ?_
          refine V_aload_n (i := 0) dX10_days_43 rfl 2 rfl ?_
          refine M_getI (x := nI (v_nc (dyTo (x_A X) j).1)) dX10_days_44 lf_X10_88 rfl hb.1 (hA2.nc) ?_
          refine M_callVq (As := [.int (nI (v_nc (dyTo (x_A X) j).1))]) (st := []) dX10_days_47 lv_X10_336 ⟨by decide, by decide⟩ ⟨rfl, rfl⟩ rfl (ci := 7) hb.1 rfl rfl (Nat.le_of_ble_eq_true rfl) (r_below hb hA2 hvW (m := v_nc (dyTo (x_A X) j).1) hW0 (by omega)) (fun w47 iv47 lw47 q47 => ?_)
          obtain ⟨rfl, e1, hA47, hS47⟩ := q47
          subst e1
          have hA47 : MC iv47 b (dyW (dyTo (x_A X) j).1) := hA47
          refine M_top (x2 := nI (dyC (dyTo (x_A X) j).1)) (rfl) ?_
          refine V_istore (lv2 := [(4, .int (nI (dyC (dyTo (x_A X) j).1))), (3, .int (nI j)), (2, .int (nI ((dyTo (x_A X) j).2))), (0, .ref (b)), (1, .int (nI (iN m)))]) dX10_days_50 (by decide) rfl ?_
          refine V_aload_n (i := 0) dX10_days_52 rfl 3 rfl ?_
          refine V_iload dX10_days_53 0 rfl ?_
          refine M_callVq (As := [.int (nI (dyC (dyTo (x_A X) j).1))]) (st := []) dX10_days_55 lv_X10_339 ⟨by decide, by decide⟩ ⟨rfl, rfl⟩ rfl (ci := 7) hb.1 rfl rfl (Nat.le_of_ble_eq_true rfl) (r_sounded hb hA47 (dyW_ok hvW) (c := dyC (dyTo (x_A X) j).1) (dyC_ltW hW0)) (fun w55 iv55 lw55 q55 => ?_)
          obtain ⟨rfl, hA55, hH55, hB55, hL55⟩ := q55
          have hA55 : MC iv55 b (dyN (dyTo (x_A X) j).1) := hA55
          refine V_pop dX10_days_58 rfl ?_
          refine V_iload_n (i := 2) dX10_days_59 rfl 2 rfl ?_
          refine V_aload_n (i := 0) dX10_days_60 rfl 3 rfl ?_
          refine M_callVp (As := []) (st := [.int (nI ((dyTo (x_A X) j).2))]) dX10_days_61 lv_X10_332 ⟨by decide, by decide⟩ ⟨rfl, rfl⟩ rfl (ci := 7) hb.1 rfl rfl (Nat.le_of_ble_eq_true rfl) (r_nearestOf hb hA55 (dyN_ok hvW) hH55 (by rw [dyN_nc]; exact hW0)) ?_
          refine M_top (x2 := oI (bestLo (difV (dyN (dyTo (x_A X) j).1) (dyH (dyTo (x_A X) j).1)) (v_nc (dyN (dyTo (x_A X) j).1)))) (by rw [dif_dy]) ?_
          refine V_iload dX10_days_64 0 rfl ?_
          refine V_icmp_eq (tgt := 73) dX10_days_66 rfl (fun h66 => ?_) (fun h66 => ?_)
          · have h66 := (dy87 (dyN_ok hvW) hW0).mp h66.symm
            refine V_iconst (v := nI 0) dX10_days_73 rfl ?_
            refine V_iadd dX10_days_74 ?_
            refine M_top (nI_add _ _) ?_
            refine V_istore_n (lv2 := [(2, .int (nI (((dyTo (x_A X) j).2) + 0))), (4, .int (nI (dyC (dyTo (x_A X) j).1))), (3, .int (nI j)), (0, .ref (b)), (1, .int (nI (iN m)))]) dX10_days_75 rfl (by decide) rfl ?_
            refine V_iinc (v := nI (j + 1)) (lv2 := [(3, .int (nI (j + 1))), (2, .int (nI (((dyTo (x_A X) j).2) + 0))), (4, .int (nI (dyC (dyTo (x_A X) j).1))), (0, .ref (b)), (1, .int (nI (iN m)))]) dX10_days_76 2 rfl (nI_inc _) (by decide) rfl ?_
            refine V_goto (tgt := 37) dX10_days_79 rfl ?_
            refine V_sub [0, 1, 3, 4] rfl ?_
            exact M_at (ih37 (by omega) iv55 lw55 hA55 (fun a k p1 p2 => (hB55 a k p1 p2).trans ((hS47 a k (fun z => (p1 z.1).2.2.2.2.2.1 z.2)).trans (hB a k p1 p2))) (hL.tr hL55)) (by rw [dy_0 h66]; rfl) rfl (rfl) (rfl)
          · have h66 : ¬ bestLo (difV (dyN (dyTo (x_A X) j).1) (dyH (dyTo (x_A X) j).1)) (v_nc (dyN (dyTo (x_A X) j).1)) = some (dyC (dyTo (x_A X) j).1) := fun z => h66 ((dy87 (dyN_ok hvW) hW0).mpr z).symm
            refine V_iconst (v := nI 1) dX10_days_69 rfl ?_
            refine V_goto (tgt := 74) dX10_days_70 rfl ?_
            refine V_iadd dX10_days_74 ?_
            refine M_top (nI_add _ _) ?_
            refine V_istore_n (lv2 := [(2, .int (nI (((dyTo (x_A X) j).2) + 1))), (4, .int (nI (dyC (dyTo (x_A X) j).1))), (3, .int (nI j)), (0, .ref (b)), (1, .int (nI (iN m)))]) dX10_days_75 rfl (by decide) rfl ?_
            refine V_iinc (v := nI (j + 1)) (lv2 := [(3, .int (nI (j + 1))), (2, .int (nI (((dyTo (x_A X) j).2) + 1))), (4, .int (nI (dyC (dyTo (x_A X) j).1))), (0, .ref (b)), (1, .int (nI (iN m)))]) dX10_days_76 2 rfl (nI_inc _) (by decide) rfl ?_
            refine V_goto (tgt := 37) dX10_days_79 rfl ?_
            refine V_sub [0, 1, 3, 4] rfl ?_
            exact M_at (ih37 (by omega) iv55 lw55 hA55 (fun a k p1 p2 => (hB55 a k p1 p2).trans ((hS47 a k (fun z => (p1 z.1).2.2.2.2.2.1 z.2)).trans (hB a k p1 p2))) (hL.tr hL55)) (by rw [dy_1 h66]; rfl) rfl (rfl) (rfl)
      refine V_sub [0, 1, 2, 3] rfl ?_
      exact M_at (lp37 0 (Nat.zero_le _) iv lw hA MB.rf Off.rf) (rfl) rfl (rfl) (rfl)
    · have h23 : (v_nc (x_A X)) = 0 := (nI_eq (b := 0) (by omega) (by omega)).mp h23
      refine V_aload_n (i := 0) dX10_days_26 rfl 0 rfl ?_
      refine V_bipush (v := (-5)) dX10_days_27 rfl ?_
      refine M_callVq (As := [.int ((-5))]) (st := []) dX10_days_29 lv_X10_107 ⟨by decide, by decide⟩ ⟨rfl, rfl⟩ rfl (ci := 7) hb.1 rfl rfl (Nat.le_of_ble_eq_true rfl) (q_refuse hs hX hk (j := 3) (by decide)) (fun w29 iv29 lw29 q29 => ?_)
      obtain ⟨rfl, e1, hXr, hOr⟩ := q29
      subst e1
      refine V_iret dX10_days_32 ⟨rfl, rfl⟩ (Nat.zero_le _) (Nat.zero_le _) ?_
      subst hQ
      exact ⟨_, _, _, rfl, rfl, by unfold o_days; rw [if_neg (by omega), if_pos (by omega)]; exact ⟨rfl, hXr, hOr, Off.rf⟩⟩
  · have h9 : ¬ ((1 : Int) ≤ m.toInt ∧ m.toInt ≤ 99) := bI_eq0.mp h9
    refine V_aload_n (i := 0) dX10_days_12 rfl 0 rfl ?_
    refine V_bipush (v := (-2)) dX10_days_13 rfl ?_
    refine M_callVq (As := [.int ((-2))]) (st := []) dX10_days_15 lv_X10_107 ⟨by decide, by decide⟩ ⟨rfl, rfl⟩ rfl (ci := 7) hb.1 rfl rfl (Nat.le_of_ble_eq_true rfl) (q_refuse hs hX hk (j := 0) (by decide)) (fun w15 iv15 lw15 q15 => ?_)
    obtain ⟨rfl, e1, hXr, hOr⟩ := q15
    subst e1
    refine V_iret dX10_days_18 ⟨rfl, rfl⟩ (Nat.zero_le _) (Nat.zero_le _) ?_
    subst hQ
    exact ⟨_, _, _, rfl, rfl, by unfold o_days; rw [if_pos (by omega)]; exact ⟨rfl, hXr, hOr, Off.rf⟩⟩
set_option maxRecDepth 20000 in
theorem q_drop {g : Ev} {S : St} {iv : IV} {lw : LW} {b : Nat} (hs : SS S b) {X : Xs} (hX : MX S iv lw b X) (hk : XOK X) : CQ g mX10_drop [.ref (b)] S iv lw (fun w iv2 lw2 => MP S b iv lw (o_drop X) w iv2 lw2) := by
  refine CT_ofQ rfl (by decide) (Nat.le_of_ble_eq_true rfl) (lv := [(0, .ref (b))]) rfl (fun Q hQ => ?_)
  have hb := hs.1
  have hA := hX.1
  have hv := hk.1
  have hnc := hv.nc
  have hne := hv.ne
  have hnm := hv.nm
  refine V_aload_n (i := 0) dX10_drop_0 rfl 0 rfl ?_
  refine M_getI (x := nI (v_nc (x_A X))) dX10_drop_1 lf_X10_88 rfl hb.1 (hA.nc) ?_
  refine V_if_ne (tgt := 14) dX10_drop_4 rfl (fun h4 => ?_) (fun h4 => ?_)
  · have h4 : ¬ (v_nc (x_A X)) = 0 := fun q => h4 ((nI_eq (b := 0) (by omega) (by omega)).mpr q)
    refine V_aload_n (i := 0) dX10_drop_14 rfl 0 rfl ?_
    refine V_dup dX10_drop_15 rfl ?_
    refine M_getI (x := nI (v_nc (x_A X))) dX10_drop_16 lf_X10_88 rfl hb.1 (hA.nc) ?_
    refine V_iconst (v := nI 1) dX10_drop_19 rfl ?_
    refine V_isub dX10_drop_20 ?_
    refine M_top (x2 := nI (v_nc (x_A X) - 1)) (nI_sub (by omega)) ?_
    refine M_putI dX10_drop_21 lf_X10_88 rfl hb.1 ⟨rfl, rfl⟩ ?_
    refine V_aload_n (i := 0) dX10_drop_24 rfl 0 rfl ?_
    refine M_getI (x := nI (v_nc (x_A X) - 1)) dX10_drop_25 lf_X10_88 rfl hb.1 (up2_s) ?_
    refine V_iret dX10_drop_28 ⟨rfl, rfl⟩ (Nat.zero_le _) (Nat.zero_le _) ?_
    subst hQ
    have hAn := mc_drop hA hnc
    have hBn : MB b iv (up2 iv b 9 (nI (v_nc (x_A X) - 1))) := MB.rf.up (by omega)
    exact ⟨_, _, _, rfl, rfl, by unfold o_drop; rw [if_pos (by omega)]; exact ⟨rfl, hX.now hk hAn hBn Off.rf, hBn.off, Off.rf⟩⟩
  · have h4 : (v_nc (x_A X)) = 0 := (nI_eq (b := 0) (by omega) (by omega)).mp h4
    refine V_aload_n (i := 0) dX10_drop_7 rfl 0 rfl ?_
    refine V_bipush (v := (-5)) dX10_drop_8 rfl ?_
    refine M_callVq (As := [.int ((-5))]) (st := []) dX10_drop_10 lv_X10_107 ⟨by decide, by decide⟩ ⟨rfl, rfl⟩ rfl (ci := 7) hb.1 rfl rfl (Nat.le_of_ble_eq_true rfl) (q_refuse hs hX hk (j := 3) (by decide)) (fun w10 iv10 lw10 q10 => ?_)
    obtain ⟨rfl, e1, hXr, hOr⟩ := q10
    subst e1
    refine V_iret dX10_drop_13 ⟨rfl, rfl⟩ (Nat.zero_le _) (Nat.zero_le _) ?_
    subst hQ
    exact ⟨_, _, _, rfl, rfl, by unfold o_drop; rw [if_neg (by omega)]; exact ⟨rfl, hXr, hOr, Off.rf⟩⟩
set_option maxRecDepth 20000 in
theorem q_seed {g : Ev} {S : St} {iv : IV} {lw : LW} {b : Nat} (hs : SS S b) {X : Xs} (hX : MX S iv lw b X) (hk : XOK X) {v : Int32} : CQ g mX10_seed [.ref (b), .int (v)] S iv lw (fun w iv2 lw2 => MP S b iv lw (o_seed X v) w iv2 lw2) := by
  refine CT_ofQ rfl (by decide) (Nat.le_of_ble_eq_true rfl) (lv := [(0, .ref (b)), (1, .int (v))]) rfl (fun Q hQ => ?_)
  have hb := hs.1
  have hA := hX.1
  have hv := hk.1
  have hnc := hv.nc
  have hne := hv.ne
  have hnm := hv.nm
  refine V_aload_n (i := 0) dX10_seed_0 rfl 0 rfl ?_
  refine M_getI (x := v_se (x_A X)) dX10_seed_1 lf_X10_70 rfl hb.1 (hA.se) ?_
  refine V_istore_n (lv2 := [(2, .int (v_se (x_A X))), (0, .ref (b)), (1, .int (v))]) dX10_seed_4 rfl (by decide) rfl ?_
  refine V_aload_n (i := 0) dX10_seed_5 rfl 1 rfl ?_
  refine V_iload_n (i := 1) dX10_seed_6 rfl 2 rfl ?_
  refine M_putI dX10_seed_7 lf_X10_70 rfl hb.1 ⟨rfl, rfl⟩ ?_
  refine V_iload_n (i := 2) dX10_seed_10 rfl 0 rfl ?_
  refine V_iret dX10_seed_11 ⟨rfl, rfl⟩ (Nat.zero_le _) (Nat.zero_le _) ?_
  subst hQ
  have hAn := mc_setD (s := v) hA hnc
  have hBn : MB b iv (up2 iv b 22 v) := MB.rf.up (by omega)
  exact ⟨_, _, _, rfl, rfl, ⟨rfl, hX.now hk hAn hBn Off.rf, hBn.off, Off.rf⟩⟩
set_option maxRecDepth 20000 in
theorem r_sumOf12 {g : Ev} {S : St} {iv : IV} {lw : LW} {q m : Nat} {f : Nat → Nat} (hq : KD S q (1, 12)) (hm : m ≤ 12) (hf : ∀ i, i < m → iv q i = nI (f i)) : CP g mX10_sumOf [.ref (q), .int (nI m)] S iv lw (.int (nI (sumTo f m))) := by
  refine CT_ofQ rfl (by decide) (Nat.le_of_ble_eq_true rfl) (lv := [(0, .ref (q)), (1, .int (nI m))]) rfl (fun Q hQ => ?_)
  refine V_iconst (v := nI 0) dX10_sumOf_0 rfl ?_
  refine V_istore_n (lv2 := [(2, .int (nI 0)), (0, .ref (q)), (1, .int (nI m))]) dX10_sumOf_1 rfl (by decide) rfl ?_
  refine V_iconst (v := nI 0) dX10_sumOf_2 rfl ?_
  refine V_istore_n (lv2 := [(3, .int (nI 0)), (2, .int (nI 0)), (0, .ref (q)), (1, .int (nI m))]) dX10_sumOf_3 rfl (by decide) rfl ?_
  have lp4 : ∀ j, j ≤ m → VM g mX10_sumOf 4 [(3, .int (nI j)), (2, .int (nI (sumTo f j))), (0, .ref (q)), (1, .int (nI m))] [] S iv lw Q := by
    refine up_ind fun j hj ih4 => ?_
    refine V_iload_n (i := 3) dX10_sumOf_4 rfl 0 rfl ?_
    refine V_iload_n (i := 1) dX10_sumOf_5 rfl 3 rfl ?_
    refine V_icmp_ge (tgt := 21) dX10_sumOf_6 rfl (fun h6 => ?_) (fun h6 => ?_)
    · have h6 : m ≤ j := (nI_leI (by omega) (by omega)).mp h6
      refine V_iload_n (i := 2) dX10_sumOf_21 rfl 1 rfl ?_
      refine V_iret dX10_sumOf_22 ⟨rfl, rfl⟩ (Nat.zero_le _) (Nat.zero_le _) ?_
      subst hQ
      exact ⟨by rw [show j = m by omega], rfl⟩
    · have h6 : ¬ m ≤ j := fun q => h6 ((nI_leI (by omega) (by omega)).mpr q)
      refine V_iload_n (i := 2) dX10_sumOf_9 rfl 1 rfl ?_
      refine V_aload_n (i := 0) dX10_sumOf_10 rfl 2 rfl ?_
      refine V_iload_n (i := 3) dX10_sumOf_11 rfl 0 rfl ?_
      refine M_ialdn (j := j) (x := nI (f j)) dX10_sumOf_12 hq (by decide) (by omega) (hf j (by omega)) ?_
      refine V_iadd dX10_sumOf_13 ?_
      refine M_top (nI_add _ _) ?_
      refine V_istore_n (lv2 := [(2, .int (nI ((sumTo f j) + (f j)))), (3, .int (nI j)), (0, .ref (q)), (1, .int (nI m))]) dX10_sumOf_14 rfl (by decide) rfl ?_
      refine V_iinc (v := nI (j + 1)) (lv2 := [(3, .int (nI (j + 1))), (2, .int (nI ((sumTo f j) + (f j)))), (0, .ref (q)), (1, .int (nI m))]) dX10_sumOf_15 1 rfl (nI_inc _) (by decide) rfl ?_
      refine V_goto (tgt := 4) dX10_sumOf_18 rfl ?_
      refine V_sub [0, 1, 2, 3] rfl ?_
      exact M_at (ih4 (by omega)) (rfl) rfl (rfl) (rfl)
  refine V_sub [0, 1, 2, 3] rfl ?_
  exact M_at (lp4 0 (Nat.zero_le _)) (rfl) rfl (rfl) (rfl)
set_option maxRecDepth 20000 in
theorem r_sumOf8 {g : Ev} {S : St} {iv : IV} {lw : LW} {q m : Nat} {f : Nat → Nat} (hq : KD S q (1, 8)) (hm : m ≤ 8) (hf : ∀ i, i < m → iv q i = nI (f i)) : CP g mX10_sumOf [.ref (q), .int (nI m)] S iv lw (.int (nI (sumTo f m))) := by
  refine CT_ofQ rfl (by decide) (Nat.le_of_ble_eq_true rfl) (lv := [(0, .ref (q)), (1, .int (nI m))]) rfl (fun Q hQ => ?_)
  refine V_iconst (v := nI 0) dX10_sumOf_0 rfl ?_
  refine V_istore_n (lv2 := [(2, .int (nI 0)), (0, .ref (q)), (1, .int (nI m))]) dX10_sumOf_1 rfl (by decide) rfl ?_
  refine V_iconst (v := nI 0) dX10_sumOf_2 rfl ?_
  refine V_istore_n (lv2 := [(3, .int (nI 0)), (2, .int (nI 0)), (0, .ref (q)), (1, .int (nI m))]) dX10_sumOf_3 rfl (by decide) rfl ?_
  have lp4 : ∀ j, j ≤ m → VM g mX10_sumOf 4 [(3, .int (nI j)), (2, .int (nI (sumTo f j))), (0, .ref (q)), (1, .int (nI m))] [] S iv lw Q := by
    refine up_ind fun j hj ih4 => ?_
    refine V_iload_n (i := 3) dX10_sumOf_4 rfl 0 rfl ?_
    refine V_iload_n (i := 1) dX10_sumOf_5 rfl 3 rfl ?_
    refine V_icmp_ge (tgt := 21) dX10_sumOf_6 rfl (fun h6 => ?_) (fun h6 => ?_)
    · have h6 : m ≤ j := (nI_leI (by omega) (by omega)).mp h6
      refine V_iload_n (i := 2) dX10_sumOf_21 rfl 1 rfl ?_
      refine V_iret dX10_sumOf_22 ⟨rfl, rfl⟩ (Nat.zero_le _) (Nat.zero_le _) ?_
      subst hQ
      exact ⟨by rw [show j = m by omega], rfl⟩
    · have h6 : ¬ m ≤ j := fun q => h6 ((nI_leI (by omega) (by omega)).mpr q)
      refine V_iload_n (i := 2) dX10_sumOf_9 rfl 1 rfl ?_
      refine V_aload_n (i := 0) dX10_sumOf_10 rfl 2 rfl ?_
      refine V_iload_n (i := 3) dX10_sumOf_11 rfl 0 rfl ?_
      refine M_ialdn (j := j) (x := nI (f j)) dX10_sumOf_12 hq (by decide) (by omega) (hf j (by omega)) ?_
      refine V_iadd dX10_sumOf_13 ?_
      refine M_top (nI_add _ _) ?_
      refine V_istore_n (lv2 := [(2, .int (nI ((sumTo f j) + (f j)))), (3, .int (nI j)), (0, .ref (q)), (1, .int (nI m))]) dX10_sumOf_14 rfl (by decide) rfl ?_
      refine V_iinc (v := nI (j + 1)) (lv2 := [(3, .int (nI (j + 1))), (2, .int (nI ((sumTo f j) + (f j)))), (0, .ref (q)), (1, .int (nI m))]) dX10_sumOf_15 1 rfl (nI_inc _) (by decide) rfl ?_
      refine V_goto (tgt := 4) dX10_sumOf_18 rfl ?_
      refine V_sub [0, 1, 2, 3] rfl ?_
      exact M_at (ih4 (by omega)) (rfl) rfl (rfl) (rfl)
  refine V_sub [0, 1, 2, 3] rfl ?_
  exact M_at (lp4 0 (Nat.zero_le _)) (rfl) rfl (rfl) (rfl)
set_option maxRecDepth 20000 in
theorem q_status {g : Ev} {S : St} {iv : IV} {lw : LW} {b : Nat} (hs : SS S b) {X : Xs} (hX : MX S iv lw b X) (hk : XOK X) {w9 : Int32} : CQ g mX10_status [.ref (b), .int (w9)] S iv lw (fun w iv2 lw2 => MP S b iv lw (o_status X w9) w iv2 lw2) := by
  refine CT_ofQ rfl (by decide) (Nat.le_of_ble_eq_true rfl) (lv := [(0, .ref (b)), (1, .int (w9))]) rfl (fun Q hQ => ?_)
  have hb := hs.1
  have hA := hX.1
  have hv := hk.1
  have hnc := hv.nc
  have hne := hv.ne
  have hnm := hv.nm
  refine V_iconst (v := nI 0) dX10_status_0 rfl ?_
  refine V_istore_n (lv2 := [(2, .int (nI 0)), (0, .ref (b)), (1, .int (w9))]) dX10_status_1 rfl (by decide) rfl ?_
  refine V_iload_n (i := 1) dX10_status_2 rfl 2 rfl ?_
  by_cases hs3_0 : w9.toInt = 0
  · refine V_tabIn (v := 0) (tgt := 60) dX10_status_3 (by exact hs3_0) (by decide) rfl rfl ?_
    refine V_aload_n (i := 0) dX10_status_60 rfl 1 rfl ?_
    refine M_getI (x := nI (v_nc (x_A X))) dX10_status_61 lf_X10_88 rfl hb.1 (hA.nc) ?_
    refine V_iret dX10_status_64 ⟨rfl, rfl⟩ (Nat.zero_le _) (Nat.zero_le _) ?_
    subst hQ
    exact ⟨_, _, _, rfl, rfl, by unfold o_status; rw [if_pos (by omega)]; exact MP.same hX⟩
  by_cases hs3_1 : w9.toInt = 1
  · refine V_tabIn (v := 1) (tgt := 65) dX10_status_3 (by exact hs3_1) (by decide) rfl rfl ?_
    refine V_aload_n (i := 0) dX10_status_65 rfl 1 rfl ?_
    refine M_getI (x := nI (v_ne (x_A X))) dX10_status_66 lf_X10_95 rfl hb.1 (hA.ne) ?_
    refine V_iret dX10_status_69 ⟨rfl, rfl⟩ (Nat.zero_le _) (Nat.zero_le _) ?_
    subst hQ
    exact ⟨_, _, _, rfl, rfl, by unfold o_status; rw [if_neg (by omega), if_pos (by omega)]; exact MP.same hX⟩
  by_cases hs3_2 : w9.toInt = 2
  · refine V_tabIn (v := 2) (tgt := 70) dX10_status_3 (by exact hs3_2) (by decide) rfl rfl ?_
    refine V_aload_n (i := 0) dX10_status_70 rfl 1 rfl ?_
    refine M_getI (x := nI (v_nm (x_A X))) dX10_status_71 lf_X10_98 rfl hb.1 (hA.nm) ?_
    refine V_iret dX10_status_74 ⟨rfl, rfl⟩ (Nat.zero_le _) (Nat.zero_le _) ?_
    subst hQ
    exact ⟨_, _, _, rfl, rfl, by unfold o_status; rw [if_neg (by omega), if_neg (by omega), if_pos (by omega)]; exact MP.same hX⟩
  by_cases hs3_3 : w9.toInt = 3
  · refine V_tabIn (v := 3) (tgt := 75) dX10_status_3 (by exact hs3_3) (by decide) rfl rfl ?_
    refine V_aload_n (i := 0) dX10_status_75 rfl 1 rfl ?_
    refine M_getR dX10_status_76 lf_X10_42 rfl hb.1 hb.2.2.2.2.2.2.2.2.2.2.1.1 ?_
    refine V_aload_n (i := 0) dX10_status_79 rfl 1 rfl ?_
    refine M_getI (x := nI (v_nc (x_A X))) dX10_status_80 lf_X10_88 rfl hb.1 (hA.nc) ?_
    refine M_callSp (As := [.ref (b + 30), .int (nI (v_nc (x_A X)))]) (st := []) dX10_status_83 ls_X10_349 ⟨by decide, by decide⟩ ⟨rfl, rfl⟩ rfl (Nat.le_of_ble_eq_true rfl) (r_sumOf12 (q := b + 30) (f := v_sz (x_A X)) hb.2.2.2.2.2.2.2.2.2.2.1.2 hnc (fun i hi => hA.sz hi)) ?_
    refine V_iret dX10_status_86 ⟨rfl, rfl⟩ (Nat.zero_le _) (Nat.zero_le _) ?_
    subst hQ
    exact ⟨_, _, _, rfl, rfl, by unfold o_status; rw [if_neg (by omega), if_neg (by omega), if_neg (by omega), if_pos (by omega)]; exact MP.same hX⟩
  by_cases hs3_4 : w9.toInt = 4
  · refine V_tabIn (v := 4) (tgt := 87) dX10_status_3 (by exact hs3_4) (by decide) rfl rfl ?_
    refine V_aload_n (i := 0) dX10_status_87 rfl 1 rfl ?_
    refine M_callVp (As := []) (st := []) dX10_status_88 lv_X10_298 ⟨by decide, by decide⟩ ⟨rfl, rfl⟩ rfl (ci := 7) hb.1 rfl rfl (Nat.le_of_ble_eq_true rfl) (r_uses hb hA hv) ?_
    refine V_iret dX10_status_91 ⟨rfl, rfl⟩ (Nat.zero_le _) (Nat.zero_le _) ?_
    subst hQ
    exact ⟨_, _, _, rfl, rfl, by unfold o_status; rw [if_neg (by omega), if_neg (by omega), if_neg (by omega), if_neg (by omega), if_pos (by omega)]; exact MP.same hX⟩
  by_cases hs3_5 : w9.toInt = 5
  · refine V_tabIn (v := 5) (tgt := 92) dX10_status_3 (by exact hs3_5) (by decide) rfl rfl ?_
    refine V_aload_n (i := 0) dX10_status_92 rfl 1 rfl ?_
    refine M_getI (x := nI (v_su (x_A X))) dX10_status_93 lf_X10_63 rfl hb.1 (hA.su) ?_
    refine V_iret dX10_status_96 ⟨rfl, rfl⟩ (Nat.zero_le _) (Nat.zero_le _) ?_
    subst hQ
    exact ⟨_, _, _, rfl, rfl, by unfold o_status; rw [if_neg (by omega), if_neg (by omega), if_neg (by omega), if_neg (by omega), if_neg (by omega), if_pos (by omega)]; exact MP.same hX⟩
  by_cases hs3_6 : w9.toInt = 6
  · refine V_tabIn (v := 6) (tgt := 97) dX10_status_3 (by exact hs3_6) (by decide) rfl rfl ?_
    refine V_aload_n (i := 0) dX10_status_97 rfl 1 rfl ?_
    refine M_getI (x := nI (v_lo (x_A X))) dX10_status_98 lf_X10_67 rfl hb.1 (hA.lo) ?_
    refine V_iret dX10_status_101 ⟨rfl, rfl⟩ (Nat.zero_le _) (Nat.zero_le _) ?_
    subst hQ
    exact ⟨_, _, _, rfl, rfl, by unfold o_status; rw [if_neg (by omega), if_neg (by omega), if_neg (by omega), if_neg (by omega), if_neg (by omega), if_neg (by omega), if_pos (by omega)]; exact MP.same hX⟩
  by_cases hs3_7 : w9.toInt = 7
  · refine V_tabIn (v := 7) (tgt := 102) dX10_status_3 (by exact hs3_7) (by decide) rfl rfl ?_
    refine V_aload_n (i := 0) dX10_status_102 rfl 1 rfl ?_
    refine M_getI (x := nI (x_n X)) dX10_status_103 lf_X10_164 rfl hb.1 (hX.2.2.1.1) ?_
    refine V_iret dX10_status_106 ⟨rfl, rfl⟩ (Nat.zero_le _) (Nat.zero_le _) ?_
    subst hQ
    exact ⟨_, _, _, rfl, rfl, by unfold o_status; rw [if_neg (by omega), if_neg (by omega), if_neg (by omega), if_neg (by omega), if_neg (by omega), if_neg (by omega), if_neg (by omega), if_pos (by omega)]; exact MP.same hX⟩
  by_cases hs3_8 : w9.toInt = 8
  · refine V_tabIn (v := 8) (tgt := 107) dX10_status_3 (by exact hs3_8) (by decide) rfl rfl ?_
    refine V_aload_n (i := 0) dX10_status_107 rfl 1 rfl ?_
    refine M_getI (x := v_se (x_A X)) dX10_status_108 lf_X10_70 rfl hb.1 (hA.se) ?_
    refine V_iret dX10_status_111 ⟨rfl, rfl⟩ (Nat.zero_le _) (Nat.zero_le _) ?_
    subst hQ
    exact ⟨_, _, _, rfl, rfl, by unfold o_status; rw [if_neg (by omega), if_neg (by omega), if_neg (by omega), if_neg (by omega), if_neg (by omega), if_neg (by omega), if_neg (by omega), if_neg (by omega), if_pos (by omega)]; exact MP.same hX⟩
  by_cases hs3_9 : w9.toInt = 9
  · refine V_tabIn (v := 9) (tgt := 112) dX10_status_3 (by exact hs3_9) (by decide) rfl rfl ?_
    refine V_iconst (v := nI 0) dX10_status_112 rfl ?_
    refine V_istore_n (lv2 := [(3, .int (nI 0)), (2, .int (nI 0)), (0, .ref (b)), (1, .int (w9))]) dX10_status_113 rfl (by decide) rfl ?_
    have lp114 : ∀ j, j ≤ 8 → VM g mX10_status 114 [(3, .int (nI j)), (2, .int (nI (cntTo (fun s => !decide ((x_T X s).1 = -1)) j))), (0, .ref (b)), (1, .int (w9))] [] S iv lw Q := by
      refine up_ind fun j hj ih114 => ?_
      refine V_iload_n (i := 3) dX10_status_114 rfl 0 rfl ?_
      refine V_bipush (v := nI 8) dX10_status_115 rfl ?_
      refine V_icmp_ge (tgt := 143) dX10_status_117 rfl (fun h117 => ?_) (fun h117 => ?_)
      · have h117 : 8 ≤ j := (nI_leI (by omega) (by omega)).mp h117
        refine V_iload_n (i := 2) dX10_status_143 rfl 1 rfl ?_
        refine V_iret dX10_status_144 ⟨rfl, rfl⟩ (Nat.zero_le _) (Nat.zero_le _) ?_
        subst hQ
        have hj9 : j = 8 := by omega
        subst hj9
        exact ⟨_, _, _, rfl, rfl, by unfold o_status; rw [if_neg (by omega), if_neg (by omega), if_neg (by omega), if_neg (by omega), if_neg (by omega), if_neg (by omega), if_neg (by omega), if_neg (by omega), if_neg (by omega), if_pos (by omega)]; exact MP.same hX⟩
      · have h117 : ¬ 8 ≤ j := fun q => h117 ((nI_leI (by omega) (by omega)).mpr q)
        refine V_iload_n (i := 2) dX10_status_120 rfl 1 rfl ?_
        refine V_aload_n (i := 0) dX10_status_121 rfl 2 rfl ?_
        refine M_getR dX10_status_122 lf_X10_7 rfl hb.1 hb.2.1.1 ?_
        refine V_iload_n (i := 3) dX10_status_125 rfl 0 rfl ?_
        refine M_ialdn (j := j) (x := nI (sk (x_T X j))) dX10_status_126 hb.2.1.2 (by decide) (by omega) ((hX.2.1 j (by omega)).1) ?_
        have hskj := sk_c (x_T X j)
        refine V_if_eq (tgt := 134) dX10_status_127 rfl (fun h127 => ?_) (fun h127 => ?_)
        · have h127 : (sk (x_T X j)) = 0 := (nI_eq (b := 0) (by omega) (by omega)).mp h127
          refine V_iconst (v := nI 0) dX10_status_134 rfl ?_
          refine V_iadd dX10_status_135 ?_
          refine M_top (nI_add _ _) ?_
          refine V_istore_n (lv2 := [(2, .int (nI ((cntTo (fun s => !decide ((x_T X s).1 = -1)) j) + 0))), (3, .int (nI j)), (0, .ref (b)), (1, .int (w9))]) dX10_status_136 rfl (by decide) rfl ?_
          refine V_iinc (v := nI (j + 1)) (lv2 := [(3, .int (nI (j + 1))), (2, .int (nI ((cntTo (fun s => !decide ((x_T X s).1 = -1)) j) + 0))), (0, .ref (b)), (1, .int (w9))]) dX10_status_137 1 rfl (nI_inc _) (by decide) rfl ?_
          refine V_goto (tgt := 114) dX10_status_140 rfl ?_
          refine V_sub [0, 1, 2, 3] rfl ?_
          exact M_at (ih114 (by omega)) (by rw [cntTo_f (Bool.eq_false_iff.mpr (fun z => (fl_sk (hk.2.1 j (by omega))).mp z h127))]; rfl) rfl (rfl) (rfl)
        · have h127 : ¬ (sk (x_T X j)) = 0 := fun q => h127 ((nI_eq (b := 0) (by omega) (by omega)).mpr q)
          refine V_iconst (v := nI 1) dX10_status_130 rfl ?_
          refine V_goto (tgt := 135) dX10_status_131 rfl ?_
          refine V_iadd dX10_status_135 ?_
          refine M_top (nI_add _ _) ?_
          refine V_istore_n (lv2 := [(2, .int (nI ((cntTo (fun s => !decide ((x_T X s).1 = -1)) j) + 1))), (3, .int (nI j)), (0, .ref (b)), (1, .int (w9))]) dX10_status_136 rfl (by decide) rfl ?_
          refine V_iinc (v := nI (j + 1)) (lv2 := [(3, .int (nI (j + 1))), (2, .int (nI ((cntTo (fun s => !decide ((x_T X s).1 = -1)) j) + 1))), (0, .ref (b)), (1, .int (w9))]) dX10_status_137 1 rfl (nI_inc _) (by decide) rfl ?_
          refine V_goto (tgt := 114) dX10_status_140 rfl ?_
          refine V_sub [0, 1, 2, 3] rfl ?_
          exact M_at (ih114 (by omega)) (by rw [cntTo_t ((fl_sk (hk.2.1 j (by omega))).mpr h127)]; rfl) rfl (rfl) (rfl)
    refine V_sub [0, 1, 2, 3] rfl ?_
    exact M_at (lp114 0 (Nat.zero_le _)) (rfl) rfl (rfl) (rfl)
  by_cases hs3_10 : w9.toInt = 10
  · refine V_tabIn (v := 10) (tgt := 145) dX10_status_3 (by exact hs3_10) (by decide) rfl rfl ?_
    refine V_aload_n (i := 0) dX10_status_145 rfl 1 rfl ?_
    refine M_getR dX10_status_146 lf_X10_60 rfl hb.1 hb.2.2.2.2.2.2.2.2.2.2.2.2.2.2.2.2.1.1 ?_
    refine V_aload_n (i := 0) dX10_status_149 rfl 1 rfl ?_
    refine M_getI (x := nI (v_nm (x_A X))) dX10_status_150 lf_X10_98 rfl hb.1 (hA.nm) ?_
    refine M_callSp (As := [.ref (b + 36), .int (nI (v_nm (x_A X)))]) (st := []) dX10_status_153 ls_X10_349 ⟨by decide, by decide⟩ ⟨rfl, rfl⟩ rfl (Nat.le_of_ble_eq_true rfl) (r_sumOf8 (q := b + 36) (f := v_lk (x_A X)) hb.2.2.2.2.2.2.2.2.2.2.2.2.2.2.2.2.1.2 hnm (fun i hi => hA.lk hi)) ?_
    refine V_iret dX10_status_156 ⟨rfl, rfl⟩ (Nat.zero_le _) (Nat.zero_le _) ?_
    subst hQ
    exact ⟨_, _, _, rfl, rfl, by unfold o_status; rw [if_neg (by omega), if_neg (by omega), if_neg (by omega), if_neg (by omega), if_neg (by omega), if_neg (by omega), if_neg (by omega), if_neg (by omega), if_neg (by omega), if_neg (by omega), if_pos (by omega)]; exact MP.same hX⟩
  refine V_tableOut (tgt := 157) dX10_status_3 (by omega) rfl ?_
  refine V_iload_n (i := 1) dX10_status_157 rfl 2 rfl ?_
  refine V_i2l dX10_status_158 ?_
  refine V_ldc2 (v := lN 12) dX10_status_159 mw_1650 ?_
  refine V_ldc2 (v := lN 16) dX10_status_162 mw_1651 ?_
  refine M_callSp (As := [.long ((w9).toInt64), .long (lN 12), .long (lN 16)]) (st := []) dX10_status_165 ls_X10_91 ⟨by decide, by decide⟩ ⟨rfl, rfl⟩ rfl (Nat.le_of_ble_eq_true rfl) (r_inK (by decide) (by decide)) ?_
  refine V_if_eq (tgt := 183) dX10_status_168 rfl (fun h168 => ?_) (fun h168 => ?_)
  · have h168 : ¬ ((12 : Int) ≤ w9.toInt ∧ w9.toInt ≤ 16) := bI_eq0.mp h168
    refine V_iconst (v := (-1)) dX10_status_183 rfl ?_
    refine V_iret dX10_status_184 ⟨rfl, rfl⟩ (Nat.zero_le _) (Nat.zero_le _) ?_
    subst hQ
    exact ⟨_, _, _, rfl, rfl, by unfold o_status; rw [if_neg (by omega), if_neg (by omega), if_neg (by omega), if_neg (by omega), if_neg (by omega), if_neg (by omega), if_neg (by omega), if_neg (by omega), if_neg (by omega), if_neg (by omega), if_neg (by omega), if_neg (by omega)]; exact MP.same hX⟩
  · have h168 : (12 : Int) ≤ w9.toInt ∧ w9.toInt ≤ 16 := bI_ne.mp h168
    have cw9 := iN_eq (k := w9) (by omega)
    have dw9 := iN_i (k := w9) (by omega)
    refine M_at (lv2 := [(2, .int (nI 0)), (0, .ref (b)), (1, .int (nI (iN w9)))]) (st2 := []) ?_ (by rw [← cw9]) rfl rfl rfl
    refine V_aload_n (i := 0) dX10_status_171 rfl 1 rfl ?_
    refine M_getR dX10_status_172 lf_X10_34 rfl hb.1 hb.2.2.2.2.2.2.2.2.1.1 ?_
    refine V_iload_n (i := 1) dX10_status_175 rfl 2 rfl ?_
    refine V_bipush (v := nI 10) dX10_status_176 rfl ?_
    refine V_isub dX10_status_178 ?_
    refine M_top (x2 := nI (iN w9 - 10)) (nI_sub (by omega)) ?_
    refine M_ialdn (j := (iN w9 - 10)) (x := x_R X (iN w9 - 12)) dX10_status_179 hb.2.2.2.2.2.2.2.2.1.2 (by decide) (by omega) ((congrArg (fun z => iv (b + 16) z) (show iN w9 - 10 = (iN w9 - 12) + 2 by omega)).trans (hX.2.2.2.1 _ (by omega))) ?_
    refine V_goto (tgt := 184) dX10_status_180 rfl ?_
    refine V_iret dX10_status_184 ⟨rfl, rfl⟩ (Nat.zero_le _) (Nat.zero_le _) ?_
    subst hQ
    exact ⟨_, _, _, rfl, rfl, by unfold o_status; rw [if_neg (by omega), if_neg (by omega), if_neg (by omega), if_neg (by omega), if_neg (by omega), if_neg (by omega), if_neg (by omega), if_neg (by omega), if_neg (by omega), if_neg (by omega), if_neg (by omega), if_pos (by omega)]; exact MP.same hX⟩
