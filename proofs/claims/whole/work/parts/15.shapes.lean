/-! shapes: which cell is what -/
def IsCamp (S : St) (b : Nat) : Prop := KD S b (0, 0) ∧ (S.2 b 0 = some (b + 1) ∧ KD S (b + 1) (1, 12)) ∧ (S.2 b 1 = some (b + 2) ∧ KD S (b + 2) (1, 12)) ∧ (S.2 b 2 = some (b + 3) ∧ KD S (b + 3) (1, 12)) ∧ (S.2 b 3 = some (b + 4) ∧ KD S (b + 4) (1, 12)) ∧ (S.2 b 4 = some (b + 5) ∧ KD S (b + 5) (1, 6)) ∧ (S.2 b 5 = some (b + 6) ∧ KD S (b + 6) (1, 6)) ∧ (S.2 b 6 = some (b + 7) ∧ KD S (b + 7) (1, 8)) ∧ (S.2 b 7 = some (b + 8) ∧ KD S (b + 8) (1, 8))
def IsCrowd (S : St) (b : Nat) : Prop := KD S b (0, 1) ∧ (S.2 b 0 = some (b + 1) ∧ KD S (b + 1) (1, 8)) ∧ (S.2 b 1 = some (b + 2) ∧ KD S (b + 2) (1, 8)) ∧ (S.2 b 2 = some (b + 3) ∧ KD S (b + 3) (1, 8)) ∧ (S.2 b 3 = some (b + 4) ∧ KD S (b + 4) (1, 12))
def IsHear (S : St) (b : Nat) : Prop := KD S b (0, 2) ∧ (S.2 b 0 = some (b + 1) ∧ KD S (b + 1) (1, 8))
def IsLike (S : St) (b : Nat) : Prop := KD S b (0, 3) ∧ (S.2 b 0 = some (b + 1) ∧ KD S (b + 1) (1, 12))
def IsShelf (S : St) (b : Nat) : Prop := KD S b (0, 4) ∧ (S.2 b 0 = some (b + 1) ∧ KD S (b + 1) (2, 40))
def IsTape (S : St) (b : Nat) : Prop := KD S b (0, 5) ∧ (S.2 b 0 = some (b + 1) ∧ KD S (b + 1) (1, 250))
def IsX (S : St) : Prop := KD S 0 (0, 6) ∧ (S.2 0 0 = some 1 ∧ IsCamp S 1) ∧ (S.2 0 1 = some 10 ∧ IsCamp S 10) ∧ (S.2 0 2 = some 19 ∧ IsCamp S 19) ∧ (S.2 0 5 = some 45 ∧ IsTape S 45) ∧ (S.2 0 6 = some 47 ∧ IsHear S 47) ∧ (S.2 0 7 = some 49 ∧ IsCrowd S 49) ∧ (S.2 0 8 = some 54 ∧ IsLike S 54) ∧ (S.2 0 9 = some 56 ∧ KD S 56 (1, 5)) ∧ (S.2 0 4 = some 28 ∧ KD S 28 (3, 8)) ∧ ∀ s, s < 8 → S.2 28 s = some (29 + 2 * s) ∧ IsShelf S (29 + 2 * s)
def IsMod (S : St) (M : Nat) : Prop := KD S M (0, 7) ∧ (S.2 M 0 = some (M + 1) ∧ KD S (M + 1) (1, 8)) ∧ (S.2 M 1 = some (M + 2) ∧ KD S (M + 2) (1, 8)) ∧ (S.2 M 2 = some (M + 3) ∧ KD S (M + 3) (1, 8)) ∧ (S.2 M 3 = some (M + 4) ∧ KD S (M + 4) (5, 8)) ∧ (S.2 M 4 = some (M + 13) ∧ KD S (M + 13) (2, 40)) ∧ (S.2 M 5 = some (M + 14) ∧ KD S (M + 14) (1, 8)) ∧ (S.2 M 6 = some (M + 15) ∧ KD S (M + 15) (1, 250)) ∧ (S.2 M 8 = some (M + 16) ∧ KD S (M + 16) (1, 8)) ∧ (S.2 M 10 = some (M + 17) ∧ KD S (M + 17) (4, 12)) ∧ (S.2 M 11 = some (M + 30) ∧ KD S (M + 30) (1, 12)) ∧ (S.2 M 12 = some (M + 31) ∧ KD S (M + 31) (1, 12)) ∧ (S.2 M 13 = some (M + 32) ∧ KD S (M + 32) (1, 12)) ∧ (S.2 M 15 = some (M + 33) ∧ KD S (M + 33) (1, 6)) ∧ (S.2 M 16 = some (M + 34) ∧ KD S (M + 34) (1, 6)) ∧ (S.2 M 18 = some (M + 35) ∧ KD S (M + 35) (1, 8)) ∧ (S.2 M 19 = some (M + 36) ∧ KD S (M + 36) (1, 8)) ∧ (S.2 M 30 = some (M + 37) ∧ KD S (M + 37) (1, 2)) ∧ (S.2 M 32 = some (M + 38) ∧ KD S (M + 38) (2, 8)) ∧ (S.2 M 35 = some (M + 39) ∧ KD S (M + 39) (1, 8)) ∧ (S.2 M 36 = some (M + 40) ∧ KD S (M + 40) (1, 8)) ∧ (S.2 M 37 = some (M + 41) ∧ KD S (M + 41) (1, 8)) ∧ (∀ s, s < 8 → S.2 (M + 4) s = some (M + 5 + s) ∧ KD S (M + 5 + s) (2, 40)) ∧ (∀ c, c < 12 → S.2 (M + 17) c = some (M + 18 + c) ∧ KD S (M + 18 + c) (1, 8))
/-! what a camp is: counts (calls, ears, men); sizes; notes; (use, cost); (kind, a); (ear, look); (sure, lost, seed) -/
abbrev Cv : Type := (Nat × Nat × Nat) × (Nat → Nat) × (Nat → Nat → Nat) × (Nat → Nat × Nat) × (Nat → Nat × Nat) × (Nat → Nat × Nat) × (Nat × Nat × Int32)
def v_nc (V : Cv) : Nat := V.1.1
def v_ne (V : Cv) : Nat := V.1.2.1
def v_nm (V : Cv) : Nat := V.1.2.2
def v_sz (V : Cv) (c : Nat) : Nat := V.2.1 c
def v_nt (V : Cv) (c i : Nat) : Nat := V.2.2.1 c i
def v_us (V : Cv) (c : Nat) : Nat := (V.2.2.2.1 c).1
def v_co (V : Cv) (c : Nat) : Nat := (V.2.2.2.1 c).2
def v_kd (V : Cv) (e : Nat) : Nat := (V.2.2.2.2.1 e).1
def v_by (V : Cv) (e : Nat) : Nat := (V.2.2.2.2.1 e).2
def v_eo (V : Cv) (m : Nat) : Nat := (V.2.2.2.2.2.1 m).1
def v_lk (V : Cv) (m : Nat) : Nat := (V.2.2.2.2.2.1 m).2
def v_su (V : Cv) : Nat := V.2.2.2.2.2.2.1
def v_lo (V : Cv) : Nat := V.2.2.2.2.2.2.2.1
def v_se (V : Cv) : Int32 := V.2.2.2.2.2.2.2.2
/-- what a camp may be -/
def VOK (V : Cv) : Prop := (v_nc V ≤ 12 ∧ v_ne V ≤ 6 ∧ v_nm V ≤ 8) ∧
  (∀ c, c < v_nc V → v_sz V c ≤ 8 ∧ (∀ i, i < v_sz V c → v_nt V c i ≤ 4) ∧ (1 ≤ v_us V c ∧ v_us V c ≤ 99) ∧ v_co V c ≤ 99) ∧
  (∀ e, e < v_ne V → v_kd V e ≤ 5 ∧ v_by V e ≤ 9) ∧ (∀ m, m < v_nm V → v_eo V m < v_ne V ∧ v_lk V m ≤ 1) ∧ (v_su V ≤ 1000 ∧ v_lo V ≤ 100)
theorem VOK.nc {V : Cv} (h : VOK V) : v_nc V ≤ 12 := h.1.1
theorem VOK.ne {V : Cv} (h : VOK V) : v_ne V ≤ 6 := h.1.2.1
theorem VOK.nm {V : Cv} (h : VOK V) : v_nm V ≤ 8 := h.1.2.2
theorem VOK.sz {V : Cv} (h : VOK V) {c : Nat} (hc : c < v_nc V) : v_sz V c ≤ 8 := (h.2.1 c hc).1
theorem VOK.nt {V : Cv} (h : VOK V) {c i : Nat} (hc : c < v_nc V) (hi : i < v_sz V c) : v_nt V c i ≤ 4 := (h.2.1 c hc).2.1 i hi
theorem VOK.us {V : Cv} (h : VOK V) {c : Nat} (hc : c < v_nc V) : v_us V c ≤ 99 := (h.2.1 c hc).2.2.1.2
theorem VOK.us1 {V : Cv} (h : VOK V) {c : Nat} (hc : c < v_nc V) : 1 ≤ v_us V c := (h.2.1 c hc).2.2.1.1
theorem VOK.co {V : Cv} (h : VOK V) {c : Nat} (hc : c < v_nc V) : v_co V c ≤ 99 := (h.2.1 c hc).2.2.2
theorem VOK.kd {V : Cv} (h : VOK V) {e : Nat} (he : e < v_ne V) : v_kd V e ≤ 5 := (h.2.2.1 e he).1
theorem VOK.by {V : Cv} (h : VOK V) {e : Nat} (he : e < v_ne V) : v_by V e ≤ 9 := (h.2.2.1 e he).2
theorem VOK.eo {V : Cv} (h : VOK V) {m : Nat} (hm : m < v_nm V) : v_eo V m < v_ne V := (h.2.2.2.1 m hm).1
theorem VOK.lk {V : Cv} (h : VOK V) {m : Nat} (hm : m < v_nm V) : v_lk V m ≤ 1 := (h.2.2.2.1 m hm).2
theorem VOK.su {V : Cv} (h : VOK V) : v_su V ≤ 1000 := h.2.2.2.2.1
theorem VOK.lo {V : Cv} (h : VOK V) : v_lo V ≤ 100 := h.2.2.2.2.2
/-- notes in the bits of their places -/
def pkTo (f : Nat → Nat) : Nat → Nat
  | 0 => 0
  | i + 1 => pkTo f i + (f i + 1) * 8 ^ i
def v_pk (V : Cv) (c : Nat) : Nat := pkTo (v_nt V c) (v_sz V c)
/-- the camp at b holds V -/
def XC (iv : IV) (b : Nat) (V : Cv) : Prop := VOK V ∧ (iv b 8 = nI (v_nc V) ∧ iv b 9 = nI (v_ne V) ∧ iv b 10 = nI (v_nm V) ∧ iv b 11 = nI (v_su V) ∧ iv b 12 = nI (v_lo V) ∧ iv b 13 = v_se V) ∧
  (∀ c, c < v_nc V → iv (b + 1) c = nI (v_sz V c) ∧ iv (b + 2) c = nI (v_pk V c) ∧ iv (b + 3) c = nI (v_us V c) ∧ iv (b + 4) c = nI (v_co V c)) ∧
  (∀ e, e < v_ne V → iv (b + 5) e = nI (v_kd V e) ∧ iv (b + 6) e = nI (v_by V e)) ∧ (∀ m, m < v_nm V → iv (b + 7) m = nI (v_eo V m) ∧ iv (b + 8) m = nI (v_lk V m))
theorem XC.ok {iv : IV} {b : Nat} {V : Cv} (h : XC iv b V) : VOK V := h.1
theorem XC.nc {iv : IV} {b : Nat} {V : Cv} (h : XC iv b V) : iv b 8 = nI (v_nc V) := h.2.1.1
theorem XC.ne {iv : IV} {b : Nat} {V : Cv} (h : XC iv b V) : iv b 9 = nI (v_ne V) := h.2.1.2.1
theorem XC.nm {iv : IV} {b : Nat} {V : Cv} (h : XC iv b V) : iv b 10 = nI (v_nm V) := h.2.1.2.2.1
theorem XC.su {iv : IV} {b : Nat} {V : Cv} (h : XC iv b V) : iv b 11 = nI (v_su V) := h.2.1.2.2.2.1
theorem XC.lo {iv : IV} {b : Nat} {V : Cv} (h : XC iv b V) : iv b 12 = nI (v_lo V) := h.2.1.2.2.2.2.1
theorem XC.se {iv : IV} {b : Nat} {V : Cv} (h : XC iv b V) : iv b 13 = v_se V := h.2.1.2.2.2.2.2
theorem XC.sz {iv : IV} {b : Nat} {V : Cv} (h : XC iv b V) {c : Nat} (hc : c < v_nc V) : iv (b + 1) c = nI (v_sz V c) := (h.2.2.1 c hc).1
theorem XC.pk {iv : IV} {b : Nat} {V : Cv} (h : XC iv b V) {c : Nat} (hc : c < v_nc V) : iv (b + 2) c = nI (v_pk V c) := (h.2.2.1 c hc).2.1
theorem XC.us {iv : IV} {b : Nat} {V : Cv} (h : XC iv b V) {c : Nat} (hc : c < v_nc V) : iv (b + 3) c = nI (v_us V c) := (h.2.2.1 c hc).2.2.1
theorem XC.co {iv : IV} {b : Nat} {V : Cv} (h : XC iv b V) {c : Nat} (hc : c < v_nc V) : iv (b + 4) c = nI (v_co V c) := (h.2.2.1 c hc).2.2.2
theorem XC.kd {iv : IV} {b : Nat} {V : Cv} (h : XC iv b V) {e : Nat} (he : e < v_ne V) : iv (b + 5) e = nI (v_kd V e) := (h.2.2.2.1 e he).1
theorem XC.by {iv : IV} {b : Nat} {V : Cv} (h : XC iv b V) {e : Nat} (he : e < v_ne V) : iv (b + 6) e = nI (v_by V e) := (h.2.2.2.1 e he).2
theorem XC.eo {iv : IV} {b : Nat} {V : Cv} (h : XC iv b V) {m : Nat} (hm : m < v_nm V) : iv (b + 7) m = nI (v_eo V m) := (h.2.2.2.2 m hm).1
theorem XC.lk {iv : IV} {b : Nat} {V : Cv} (h : XC iv b V) {m : Nat} (hm : m < v_nm V) : iv (b + 8) m = nI (v_lk V m) := (h.2.2.2.2 m hm).2
/-- the camp at b is read from its own nine cells -/
theorem XC.of {iv iv2 : IV} {b : Nat} {V : Cv} (h : XC iv b V) (he : ∀ a, b ≤ a → a ≤ b + 8 → iv2 a = iv a) : XC iv2 b V := by
  obtain ⟨h0, h1, h2, h3, h4⟩ := h
  refine ⟨h0, ?_, fun c hc => ?_, fun e hc => ?_, fun m hc => ?_⟩
  · rw [he b (by omega) (by omega)]; exact h1
  · rw [he (b + 1) (by omega) (by omega), he (b + 2) (by omega) (by omega), he (b + 3) (by omega) (by omega), he (b + 4) (by omega) (by omega)]; exact h2 c hc
  · rw [he (b + 5) (by omega) (by omega), he (b + 6) (by omega) (by omega)]; exact h3 e hc
  · rw [he (b + 7) (by omega) (by omega), he (b + 8) (by omega) (by omega)]; exact h4 m hc
/-! ints that a caller gives -/
abbrev inR (c : Int32) (n : Nat) : Prop := 0 ≤ c.toInt ∧ c.toInt < n
theorem inR_nI {c : Int32} {n : Nat} (hn : n < 2 ^ 31) : inR c n ↔ ∃ j, j < n ∧ c = nI j := by
  constructor
  · intro h
    exact vp_in_of (vp_in_iff.mpr h) hn
  · rintro ⟨j, hj, rfl⟩
    unfold inR
    rw [nI_toInt (by omega)]
    omega
theorem i_neg {c : Int32} : c < 0 ↔ c.toInt < 0 := Int32.lt_iff_toInt_lt
theorem i_nn {c : Int32} : 0 ≤ c ↔ 0 ≤ c.toInt := Int32.le_iff_toInt_le
theorem i_ge {c : Int32} {n : Nat} (hn : n < 2 ^ 31) : nI n ≤ c ↔ (n : Int) ≤ c.toInt := by rw [Int32.le_iff_toInt_le, nI_toInt hn]
theorem i_le {c : Int32} {n : Nat} (hn : n < 2 ^ 31) : c ≤ nI n ↔ c.toInt ≤ (n : Int) := by rw [Int32.le_iff_toInt_le, nI_toInt hn]
theorem i_gt {c : Int32} {n : Nat} (hn : n < 2 ^ 31) : nI n < c ↔ (n : Int) < c.toInt := by rw [Int32.lt_iff_toInt_lt, nI_toInt hn]
theorem i_lt {c : Int32} {n : Nat} (hn : n < 2 ^ 31) : c < nI n ↔ c.toInt < (n : Int) := by rw [Int32.lt_iff_toInt_lt, nI_toInt hn]
theorem i_eq {c : Int32} {n : Nat} (hn : n < 2 ^ 31) : c = nI n ↔ c.toInt = (n : Int) := by
  constructor
  · rintro rfl; exact nI_toInt hn
  · intro h; exact Int32.toInt_inj.mp (h.trans (nI_toInt hn).symm)
/-- sums, counts -/
def sumTo (f : Nat → Nat) : Nat → Nat
  | 0 => 0
  | i + 1 => sumTo f i + f i
theorem sumTo_le {f : Nat → Nat} {M : Nat} : ∀ n, (∀ i, i < n → f i ≤ M) → sumTo f n ≤ n * M
  | 0, _ => by simp [sumTo]
  | n + 1, h => by
    have h1 := sumTo_le n (fun i hi => h i (by omega))
    have h2 := h n (by omega)
    show sumTo f n + f n ≤ (n + 1) * M
    rw [Nat.succ_mul]
    omega
theorem sumTo_mono {f : Nat → Nat} {M m n : Nat} (h : ∀ i, i < n → f i ≤ M) (hm : m ≤ n) : sumTo f m ≤ n * M := Nat.le_trans (sumTo_le m (fun i hi => h i (by omega))) (Nat.mul_le_mul_right _ hm)
theorem sumTo_congr {f f2 : Nat → Nat} : ∀ n, (∀ i, i < n → f i = f2 i) → sumTo f n = sumTo f2 n
  | 0, _ => rfl
  | n + 1, h => by
    show sumTo f n + f n = sumTo f2 n + f2 n
    rw [sumTo_congr n (fun i hi => h i (by omega)), h n (by omega)]
