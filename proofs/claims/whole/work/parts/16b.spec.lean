/-! what the calls mean: in numbers, for the class and for the reference -/
theorem up2_a {α : Type} {f : Nat → Nat → α} {a k b : Nat} {v : α} (h : b ≠ a) : up2 f a k v b = f b := funext fun j => if_neg (fun q => h q.1)
theorem up2_s {α : Type} {f : Nat → Nat → α} {a k : Nat} {v : α} : up2 f a k v a k = v := if_pos ⟨rfl, rfl⟩
theorem up2_k {α : Type} {f : Nat → Nat → α} {a k j : Nat} {v : α} (h : j ≠ k) : up2 f a k v a j = f a j := if_neg (fun q => h q.2)
theorem up2_ne {α : Type} {f : Nat → Nat → α} {a k b j : Nat} {v : α} (h : b ≠ a) : up2 f a k v b j = f b j := congrFun (up2_a h) j
/-- nothing but the n cells from b on has changed -/
def Off {α : Type} (b n : Nat) (f f2 : Nat → Nat → α) : Prop := ∀ a, (a < b ∨ b + n ≤ a) → f2 a = f a
theorem Off.rf {α : Type} {b n : Nat} {f : Nat → Nat → α} : Off b n f f := fun _ _ => rfl
theorem Off.up {α : Type} {b n a k : Nat} {f f2 : Nat → Nat → α} {v : α} (h : Off b n f f2) (h1 : b ≤ a) (h2 : a < b + n) : Off b n f (up2 f2 a k v) := fun q hq => by rw [up2_a (by omega)]; exact h q hq
theorem Off.tr {α : Type} {b n : Nat} {f f2 f3 : Nat → Nat → α} (h : Off b n f f2) (h2 : Off b n f2 f3) : Off b n f f3 := fun q hq => (h2 q hq).trans (h q hq)
theorem Off.wide {α : Type} {b n c m : Nat} {f f2 : Nat → Nat → α} (h : Off b n f f2) (h1 : c ≤ b) (h2 : b + n ≤ c + m) : Off c m f f2 := fun q hq => h q (by omega)
theorem Off.row {α : Type} {b n a : Nat} {f f2 : Nat → Nat → α} {r : Nat → α} (h : Off b n f f2) (h1 : b ≤ a) (h2 : a < b + n) : Off b n f (rowU f2 a r) := fun q hq => by rw [rowU_n (by omega)]; exact h q hq
def allTo (p : Nat → Bool) : Nat → Bool
  | 0 => true
  | n + 1 => allTo p n && p n
theorem allTo_iff {p : Nat → Bool} : ∀ n, allTo p n = true ↔ ∀ i, i < n → p i = true
  | 0 => by simp [allTo]
  | n + 1 => by
    show (allTo p n && p n) = true ↔ _
    rw [Bool.and_eq_true, allTo_iff n]
    constructor
    · rintro ⟨h1, h2⟩ i hi
      rcases Nat.lt_or_ge i n with h | h
      · exact h1 i h
      · have : i = n := by omega
        subst this; exact h2
    · intro h
      exact ⟨fun i hi => h i (by omega), h n (by omega)⟩
theorem allTo_congr {p q : Nat → Bool} : ∀ n, (∀ i, i < n → p i = q i) → allTo p n = allTo q n
  | 0, _ => rfl
  | n + 1, h => by
    show (allTo p n && p n) = (allTo q n && q n)
    rw [allTo_congr n (fun i hi => h i (by omega)), h n (by omega)]
theorem allTo_mono {p : Nat → Bool} {m n : Nat} (h : allTo p n = true) (hm : m ≤ n) : allTo p m = true := (allTo_iff m).mpr fun i hi => (allTo_iff n).mp h i (by omega)
theorem allTo_bad {p : Nat → Bool} {i n : Nat} (hi : i < n) (h : p i = false) : allTo p n = false := by
  cases e : allTo p n with
  | false => rfl
  | true => rw [(allTo_iff n).mp e i hi] at h; cases h
/-- how many -/
def cntTo (p : Nat → Bool) (n : Nat) : Nat := sumTo (fun i => if p i = true then 1 else 0) n
theorem cntTo_s (p : Nat → Bool) (n : Nat) : cntTo p (n + 1) = cntTo p n + (if p n = true then 1 else 0) := rfl
theorem cntTo_le (p : Nat → Bool) : ∀ n, cntTo p n ≤ n
  | 0 => Nat.le_refl _
  | n + 1 => by
    have := cntTo_le p n
    rw [cntTo_s]
    split <;> omega
/-- the first, n if there is none -/
def fstTo (p : Nat → Bool) : Nat → Nat
  | 0 => 0
  | n + 1 => if fstTo p n < n then fstTo p n else if p n = true then n else n + 1
theorem fstTo_le (p : Nat → Bool) : ∀ n, fstTo p n ≤ n
  | 0 => Nat.le_refl _
  | n + 1 => by
    have := fstTo_le p n
    unfold fstTo
    split
    · omega
    · split <;> omega
theorem fstTo_none {p : Nat → Bool} : ∀ n, (∀ i, i < n → p i = false) → fstTo p n = n
  | 0, _ => rfl
  | n + 1, h => by
    unfold fstTo
    rw [fstTo_none n (fun i hi => h i (by omega)), if_neg (by omega), if_neg (by rw [h n (by omega)]; decide)]
theorem fstTo_at {p : Nat → Bool} {k : Nat} : ∀ n, k < n → (∀ i, i < k → p i = false) → p k = true → fstTo p n = k
  | 0, h, _, _ => absurd h (by omega)
  | n + 1, h, h1, h2 => by
    unfold fstTo
    by_cases e : k < n
    · rw [fstTo_at n e h1 h2, if_pos e]
    · have : k = n := by omega
      subst this
      rw [fstTo_none k h1, if_neg (by omega), if_pos h2]
theorem fstTo_congr {p q : Nat → Bool} : ∀ n, (∀ i, i < n → p i = q i) → fstTo p n = fstTo q n
  | 0, _ => rfl
  | n + 1, h => by
    unfold fstTo
    rw [fstTo_congr n (fun i hi => h i (by omega)), h n (by omega)]
def oI (o : Option Nat) : Int32 := match o with
  | none => (-1)
  | some k => nI k
/-- a note as an ear has it -/
def noteBy (V : Cv) (c e i : Nat) : Nat :=
  if v_kd V e = 1 then (if i < v_by V e then 9 else v_nt V c i)
  else if v_kd V e = 3 then (if i < v_by V e ∨ i + 1 = v_sz V c then 9 else v_nt V c i)
  else if v_kd V e = 2 then (if v_nt V c i = 4 then 3 else v_nt V c i)
  else if v_kd V e = 4 then (if v_nt V c i = 4 then 3 else if v_nt V c i = 0 then 9 else v_nt V c i)
  else if v_kd V e = 5 then (if 0 < i ∧ i % (v_by V e + 1) = v_by V e then v_nt V c (i - 1) else v_nt V c i)
  else v_nt V c i
/-- a hearing: how many, over, the notes -/
abbrev Hv : Type := Nat × Bool × (Nat → Nat)
def fitB (V : Cv) (H : Hv) (e c : Nat) : Bool := (if H.2.1 = true then decide (v_sz V c = H.1) else decide (H.1 ≤ v_sz V c)) && allTo (fun i => decide (H.2.2 i = noteBy V c e i) || decide (H.2.2 i = 9) || decide (noteBy V c e i = 9)) H.1
def usF (V : Cv) (H : Hv) (e : Nat) : Nat := sumTo (fun c => if fitB V H e c = true then v_us V c else 0) (v_nc V)
def perK (part all : Nat) : Nat := if 0 < all then 1000 * part / all else 0
def likeOf (V : Cv) (H : Hv) (e c : Nat) : Nat := if fitB V H e c = true then perK (v_us V c) (usF V H e) else 0
def usO (V : Cv) (o : Option Nat) : Nat := match o with
  | none => 0
  | some c => v_us V c
def gsTo (V : Cv) (H : Hv) (e : Nat) : Nat → Option Nat
  | 0 => none
  | c + 1 => if usO V (gsTo V H e c) < v_us V c ∧ fitB V H e c = true then some c else gsTo V H e c
theorem gsTo_lt {V : Cv} {H : Hv} {e k : Nat} : ∀ n, gsTo V H e n = some k → k < n
  | 0, h => by cases h
  | n + 1, h => by
    unfold gsTo at h
    split at h
    · cases h; omega
    · have := gsTo_lt n h; omega
/-- what an ear has of a call's first n notes -/
def hearOf (V : Cv) (c e n : Nat) (over : Bool) : Hv := (n, over, fun i => noteBy V c e i)
def alone (V : Cv) (H : Hv) (e c : Nat) : Bool := allTo (fun k => decide (k = c) || !fitB V H e k) (v_nc V)
def behind (V : Cv) (c e : Nat) : Nat :=
  if fstTo (fun n => alone V (hearOf V c e n false) e c) (v_sz V c + 1) ≤ v_sz V c then fstTo (fun n => alone V (hearOf V c e n false) e c) (v_sz V c + 1)
  else if alone V (hearOf V c e (v_sz V c) true) e c = true then v_sz V c + 1 else v_sz V c + 2
