/-! sums -/
def sm : Nat → (Nat → Int) → Int
  | 0, _ => 0
  | n + 1, f => sm n f + f n
theorem sm_congr {f g : Nat → Int} : ∀ {n : Nat}, (∀ i, i < n → f i = g i) → sm n f = sm n g
  | 0, _ => rfl
  | n + 1, h => by
    show sm n f + f n = sm n g + g n
    rw [sm_congr (n := n) (fun i hi => h i (by omega)), h n (by omega)]
theorem sm_add (f g : Nat → Int) : ∀ n : Nat, sm n (fun i => f i + g i) = sm n f + sm n g
  | 0 => rfl
  | n + 1 => by
    show sm n _ + (f n + g n) = (sm n f + f n) + (sm n g + g n)
    rw [sm_add f g n]; omega
theorem sm_sub (f g : Nat → Int) : ∀ n : Nat, sm n (fun i => f i - g i) = sm n f - sm n g
  | 0 => rfl
  | n + 1 => by
    show sm n _ + (f n - g n) = (sm n f + f n) - (sm n g + g n)
    rw [sm_sub f g n]; omega
theorem sm_mul (c : Int) (f : Nat → Int) : ∀ n : Nat, sm n (fun i => c * f i) = c * sm n f
  | 0 => by simp [sm]
  | n + 1 => by
    show sm n _ + c * f n = c * (sm n f + f n)
    rw [sm_mul c f n, Int.mul_add]
theorem sm_mulr (c : Int) (f : Nat → Int) (n : Nat) : sm n (fun i => f i * c) = sm n f * c := by
  rw [Int.mul_comm, ← sm_mul]
  exact sm_congr (fun i _ => Int.mul_comm _ _)
theorem sm_zero {f : Nat → Int} : ∀ {n : Nat}, (∀ i, i < n → f i = 0) → sm n f = 0
  | 0, _ => rfl
  | n + 1, h => by
    show sm n f + f n = 0
    rw [sm_zero (n := n) (fun i hi => h i (by omega)), h n (by omega)]; rfl
theorem sm_neg (f : Nat → Int) : ∀ n : Nat, sm n (fun i => -f i) = -sm n f
  | 0 => rfl
  | n + 1 => by
    show sm n _ + -f n = -(sm n f + f n)
    rw [sm_neg f n]; omega
theorem sm_comm (f : Nat → Nat → Int) (m : Nat) : ∀ n : Nat, sm n (fun i => sm m (fun j => f i j)) = sm m (fun j => sm n (fun i => f i j))
  | 0 => (sm_zero (fun _ _ => rfl)).symm
  | n + 1 => by
    show sm n _ + sm m _ = _
    rw [sm_comm f m n, ← sm_add]
    rfl
theorem sm_le {f g : Nat → Int} : ∀ {n : Nat}, (∀ i, i < n → f i ≤ g i) → sm n f ≤ sm n g
  | 0, _ => Int.le_refl _
  | n + 1, h => by
    have h1 := sm_le (n := n) (fun i hi => h i (by omega))
    have h2 := h n (by omega)
    show sm n f + f n ≤ sm n g + g n
    omega
theorem sm_nonneg {f : Nat → Int} {n : Nat} (h : ∀ i, i < n → 0 ≤ f i) : 0 ≤ sm n f := by
  have := sm_le (f := fun _ => 0) (g := f) (n := n) h
  rwa [sm_zero (fun _ _ => rfl)] at this
theorem sm_ext {f : Nat → Int} {m : Nat} : ∀ {n : Nat}, m ≤ n → (∀ i, m ≤ i → i < n → f i = 0) → sm n f = sm m f
  | 0, h, _ => by
    have : m = 0 := by omega
    subst this; rfl
  | n + 1, h, hz => by
    by_cases e : m = n + 1
    · subst e; rfl
    · show sm n f + f n = sm m f
      rw [sm_ext (n := n) (by omega) (fun i h1 h2 => hz i h1 (by omega)), hz n (by omega) (by omega)]
      omega
theorem sm_one {f : Nat → Int} {k : Nat} : ∀ {n : Nat}, k < n → (∀ i, i < n → i ≠ k → f i = 0) → sm n f = f k
  | 0, h, _ => by omega
  | n + 1, h, hz => by
    show sm n f + f n = f k
    by_cases e : k = n
    · subst e
      rw [sm_zero (fun i hi => hz i (by omega) (by omega))]; omega
    · rw [sm_one (n := n) (by omega) (fun i h1 h2 => hz i (by omega) h2), hz n (by omega) (by omega)]; omega
/-- the head of a sum taken off -/
theorem sm_head (f : Nat → Int) : ∀ n : Nat, sm (n + 1) f = f 0 + sm n (fun i => f (i + 1))
  | 0 => by simp [sm]
  | n + 1 => by
    show sm (n + 1) f + f (n + 1) = f 0 + (sm n (fun i => f (i + 1)) + f (n + 1))
    rw [sm_head f n]; omega
theorem sm_bd {f : Nat → Int} {c : Int} : ∀ {n : Nat}, (∀ i, i < n → -c ≤ f i ∧ f i ≤ c) → -(n * c) ≤ sm n f ∧ sm n f ≤ n * c
  | 0, _ => by simp [sm]
  | n + 1, h => by
    have h1 := sm_bd (n := n) (fun i hi => h i (by omega))
    have h2 := h n (by omega)
    show -(((n + 1 : Nat) : Int) * c) ≤ sm n f + f n ∧ sm n f + f n ≤ ((n + 1 : Nat) : Int) * c
    have e : ((n + 1 : Nat) : Int) * c = n * c + c := by rw [Int.natCast_succ, Int.add_mul, Int.one_mul]
    rw [e]
    omega
/-- a choice by any proposition -/
noncomputable def cif (p : Prop) (x z : Int) : Int := @ite Int p (Classical.propDecidable p) x z
theorem cif_pos {p : Prop} {x z : Int} (h : p) : cif p x z = x := by unfold cif; exact @if_pos p (Classical.propDecidable p) h Int x z
theorem cif_neg {p : Prop} {x z : Int} (h : ¬ p) : cif p x z = z := by unfold cif; exact @if_neg p (Classical.propDecidable p) h Int x z
theorem cif_congr {p q : Prop} {x z : Int} (h : p ↔ q) : cif p x z = cif q x z := by
  by_cases hp : p
  · rw [cif_pos hp, cif_pos (h.mp hp)]
  · rw [cif_neg hp, cif_neg (fun q => hp (h.mpr q))]
/-- pairs a < b below T: by rows or by columns -/
theorem sm_pairs (F : Nat → Nat → Int) (T : Nat) : sm T (fun b => sm b (fun a => F a b)) = sm T (fun a => sm T (fun b => if a < b then F a b else 0)) := by
  rw [sm_comm]
  apply sm_congr
  intro b hb
  rw [sm_ext (m := b) (n := T) (by omega) (fun i h1 h2 => if_neg (by omega))]
  exact sm_congr (fun a ha => (if_pos ha).symm)
