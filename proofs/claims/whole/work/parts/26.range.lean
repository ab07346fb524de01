/-! ranges of the elimination: symmetric, off the diagonal at or below 0, row sums at or above 0, diagonal at most 7, definite -/
def MM (N : Nat) (A : Nat → Nat → Int) : Prop := Sy N A ∧ (∀ r c, r < N → c < N → r ≠ c → A r c ≤ 0) ∧ (∀ r, r < N → 0 ≤ sm N (fun c => A r c)) ∧ (∀ r, r < N → A r r ≤ 7) ∧ (∀ z : Nat → Int, sm N (fun r => z r * sm N (fun j => A r j * z j)) = 0 → ∀ j, j < N → z j = 0)
theorem mbz {x z a b : Int} (hx : -a ≤ x ∧ x ≤ a) (hz : -b ≤ z ∧ z ≤ b) : -(a * b) ≤ x * z ∧ x * z ≤ a * b := by
  have h := mb (x := x) (z := z) a.toNat b.toNat (by omega) (by omega)
  rw [Int.natCast_mul, Int.toNat_of_nonneg (show 0 ≤ a by omega), Int.toNat_of_nonneg (show 0 ≤ b by omega)] at h
  exact h
theorem nn {a b : Int} (ha : a ≤ 0) (hb : b ≤ 0) : 0 ≤ a * b := by
  have := Int.mul_nonneg (show 0 ≤ -a by omega) (show 0 ≤ -b by omega)
  rwa [Int.neg_mul_neg] at this
theorem pn {a b : Int} (ha : 0 ≤ a) (hb : b ≤ 0) : a * b ≤ 0 := by
  have := Int.mul_nonneg ha (show 0 ≤ -b by omega)
  rw [Int.mul_neg] at this
  omega
theorem dv_le {d x : Int} (hd : 0 < d) (h : d * x ≤ 0) : x ≤ 0 := by
  by_cases q : x ≤ 0
  · exact q
  · have := Int.mul_pos hd (show 0 < x by omega)
    omega
theorem dv_ge {d x : Int} (hd : 0 < d) (h : 0 ≤ d * x) : 0 ≤ x := by
  by_cases q : 0 ≤ x
  · exact q
  · have := dv_le (d := d) (x := d * 0) hd
    have h2 := Int.mul_pos hd (show 0 < -x by omega)
    rw [Int.mul_neg] at h2
    omega
theorem dv_bd {d x y : Int} (hd : 0 < d) (h1 : -(d * y) ≤ d * x) (h2 : d * x ≤ d * y) : -y ≤ x ∧ x ≤ y := by
  constructor
  · have := dv_ge (d := d) (x := x + y) hd (by rw [Int.mul_add]; omega)
    omega
  · have := dv_ge (d := d) (x := y - x) hd (by rw [Int.mul_sub]; omega)
    omega
theorem sm_le_one {f : Nat → Int} {k n : Nat} (hk : k < n) (h : ∀ i, i < n → i ≠ k → f i ≤ 0) : sm n f ≤ f k := by
  have h1 := sm_le (f := f) (g := fun i => if i = k then f k else 0) (n := n) (fun i hi => by
    by_cases q : i = k
    · rw [if_pos q, q]; exact Int.le_refl _
    · rw [if_neg q]; exact h i hi q)
  rw [sm_one (k := k) hk (fun i _ q => if_neg q), if_pos rfl] at h1
  exact h1
theorem sm_le_two {f : Nat → Int} {k j n : Nat} (hk : k < n) (hj : j < n) (hkj : j ≠ k) (h : ∀ i, i < n → i ≠ k → f i ≤ 0) : sm n f ≤ f k + f j := by
  have h1 := sm_le_one (f := fun i => if i = j then 0 else f i) hk (fun i hi q => by
    by_cases q2 : i = j
    · rw [if_pos q2]; exact Int.le_refl _
    · rw [if_neg q2]; exact h i hi q)
  rw [if_neg (fun q => hkj q.symm)] at h1
  have h2 : sm n f = sm n (fun i => if i = j then 0 else f i) + sm n (fun i => if i = j then f i else 0) := by
    rw [← sm_add]
    apply sm_congr
    intro i hi
    by_cases q : i = j
    · rw [if_pos q, if_pos q]; omega
    · rw [if_neg q, if_neg q]; omega
  rw [sm_one (f := fun i => if i = j then f i else 0) (k := j) hj (fun i _ q => if_neg q), if_pos rfl] at h2
  omega
def PP (N : Nat) (A : Nat → Nat → Int) (k : Nat) : Prop := 0 < dt k A ∧ (∀ r c, k ≤ r → r < N → k ≤ c → c < N → Ss k A r (col A c) = Ss k A c (col A r)) ∧ (∀ r c, k ≤ r → r < N → k ≤ c → c < N → r ≠ c → Ss k A r (col A c) ≤ 0) ∧ (∀ r, k ≤ r → r < N → 0 ≤ sm N (fun c => if k ≤ c then Ss k A r (col A c) else 0)) ∧ (∀ r, k ≤ r → r < N → Ss k A r (col A r) ≤ 7 * dt k A)
theorem PP_zero {N : Nat} {A : Nat → Nat → Int} (h : MM N A) : PP N A 0 := by
  obtain ⟨h1, h2, h3, h4, -⟩ := h
  refine ⟨by show (0 : Int) < 1; omega, fun r c _ hr _ hc => by rw [Ss_zero, Ss_zero]; exact h1 r c hr hc, fun r c _ hr _ hc q => by rw [Ss_zero]; exact h2 r c hr hc q, fun r _ hr => ?_, fun r _ hr => by rw [Ss_zero]; show A r r ≤ 7 * 1; exact h4 r hr⟩
  rw [sm_congr (g := fun c => A r c) (fun c _ => by rw [if_pos (Nat.zero_le c), Ss_zero])]
  exact h3 r hr
theorem PP_piv {N : Nat} {A : Nat → Nat → Int} (h : MM N A) {k : Nat} (hk : k < N) (hp : PP N A k) : 0 < dt (k + 1) A := by
  obtain ⟨p0, p1, p2, p3, p4⟩ := hp
  have h1 : 0 ≤ Ss k A k (col A k) := by
    have h2 := p3 k (Nat.le_refl k) hk
    have h3 := sm_le_one (f := fun c => if k ≤ c then Ss k A k (col A c) else 0) hk (fun c hc q => by
      show (if k ≤ c then Ss k A k (col A c) else 0) ≤ 0
      by_cases q2 : k ≤ c
      · rw [if_pos q2]; exact p2 k c (Nat.le_refl k) hk q2 hc (fun z => q z.symm)
      · rw [if_neg q2]; exact Int.le_refl _)
    rw [if_pos (Nat.le_refl k)] at h3
    omega
  rw [Ss_piv] at h1
  by_cases q : dt (k + 1) A = 0
  · exfalso
    have key : ∀ r, r ≤ k → sm N (fun j => A r j * (if j < k then -Gs k A (col A k) j else if j = k then dt k A else 0)) = 0 := by
      intro r hr
      rw [sm_ext (m := k + 1) (by omega) (fun i h1 h2 => by rw [if_neg (by omega), if_neg (by omega), Int.mul_zero])]
      show sm k _ + A r k * (if k < k then _ else if k = k then dt k A else 0) = 0
      rw [if_neg (Nat.lt_irrefl k), if_pos rfl]
      have e1 : sm k (fun j => A r j * (if j < k then -Gs k A (col A k) j else if j = k then dt k A else 0)) = -sm k (fun j => A r j * Gs k A (col A k) j) := by
        rw [← sm_neg]
        apply sm_congr
        intro j hj
        rw [if_pos hj, Int.mul_neg]
      have e2 : Ss k A r (col A k) = 0 := by
        by_cases q2 : r < k
        · exact Ss_done A _ q2
        · have e : r = k := by omega
          subst e
          rw [Ss_piv]; exact q
      unfold Ss at e2
      have e3 : dt k A * col A k r = A r k * dt k A := Int.mul_comm _ _
      rw [e1]
      omega
    have hz := h.2.2.2.2 (fun j => if j < k then -Gs k A (col A k) j else if j = k then dt k A else 0) (sm_zero (fun r hr => by
      by_cases q2 : r ≤ k
      · rw [key r q2, Int.mul_zero]
      · show (if r < k then _ else if r = k then dt k A else 0) * _ = 0
        rw [if_neg (by omega), if_neg (by omega), Int.zero_mul])) k hk
    have hz2 : (if k < k then -Gs k A (col A k) k else if k = k then dt k A else 0) = 0 := hz
    rw [if_neg (Nat.lt_irrefl k), if_pos rfl] at hz2
    omega
  · omega
theorem PP_succ {N : Nat} {A : Nat → Nat → Int} (h : MM N A) {k : Nat} (hk : k < N) (hp : PP N A k) : PP N A (k + 1) := by
  have hP := PP_piv h hk hp
  obtain ⟨p0, p1, p2, p3, p4⟩ := hp
  have hrec : ∀ r c, dt k A * Ss (k + 1) A r (col A c) = dt (k + 1) A * Ss k A r (col A c) - Ss k A r (col A k) * Ss k A k (col A c) := fun r c => rec_S h.1 hk (by omega) (by omega) (col A c) r
  have hpk := Ss_piv k A
  have hoff : ∀ r, k < r → r < N → Ss k A r (col A k) ≤ 0 := fun r h1 h2 => p2 r k (by omega) h2 (Nat.le_refl k) hk (by omega)
  have hoff2 : ∀ c, k < c → c < N → Ss k A k (col A c) ≤ 0 := fun c h1 h2 => p2 k c (Nat.le_refl k) hk (by omega) h2 (by omega)
  refine ⟨hP, fun r c hr1 hr hc1 hc => ?_, fun r c hr1 hr hc1 hc q => ?_, fun r hr1 hr => ?_, fun r hr1 hr => ?_⟩
  · apply Int.eq_of_mul_eq_mul_left (show dt k A ≠ 0 by omega)
    rw [hrec r c, hrec c r, p1 r c (by omega) hr (by omega) hc, p1 r k (by omega) hr (Nat.le_refl k) hk, p1 k c (Nat.le_refl k) hk (by omega) hc, Int.mul_comm (Ss k A k (col A r))]
  · apply dv_le p0
    rw [hrec r c]
    have u1 := pn (show 0 ≤ dt (k + 1) A by omega) (p2 r c (by omega) hr (by omega) hc q)
    have u2 := nn (hoff r (by omega) hr) (hoff2 c (by omega) hc)
    omega
  · apply dv_ge p0
    have e1 : dt k A * sm N (fun c => if k + 1 ≤ c then Ss (k + 1) A r (col A c) else 0) = sm N (fun c => dt (k + 1) A * (if k ≤ c then Ss k A r (col A c) else 0) - Ss k A r (col A k) * (if k ≤ c then Ss k A k (col A c) else 0)) := by
      rw [← sm_mul]
      apply sm_congr
      intro c hc
      by_cases q1 : k + 1 ≤ c
      · rw [if_pos q1, if_pos (by omega), if_pos (by omega), hrec r c]
      · rw [if_neg q1, Int.mul_zero]
        by_cases q2 : k ≤ c
        · have e : c = k := by omega
          subst e
          rw [if_pos (Nat.le_refl c), if_pos (Nat.le_refl c), hpk, Int.mul_comm (Ss c A r (col A c))]
          omega
        · rw [if_neg q2, if_neg q2, Int.mul_zero, Int.mul_zero]; rfl
    rw [e1, sm_sub, sm_mul, sm_mul]
    have u1 := Int.mul_nonneg (show 0 ≤ dt (k + 1) A by omega) (p3 r (by omega) hr)
    have u2 := pn (p3 k (Nat.le_refl k) hk) (hoff r (by omega) hr)
    rw [Int.mul_comm] at u2
    omega
  · have e1 := hrec r r
    rw [p1 k r (Nat.le_refl k) hk (by omega) hr] at e1
    have u1 := nn (hoff r (by omega) hr) (hoff r (by omega) hr)
    have u2 := Int.mul_le_mul_of_nonneg_left (p4 r (by omega) hr) (show 0 ≤ dt (k + 1) A by omega)
    have u3 := dv_ge (x := 7 * dt (k + 1) A - Ss (k + 1) A r (col A r)) p0 (by
      rw [Int.mul_sub, e1]
      have e2 : dt k A * (7 * dt (k + 1) A) = dt (k + 1) A * (7 * dt k A) := by
        generalize dt k A = d; generalize dt (k + 1) A = d1; grind
      omega)
    omega
theorem PP_all {N : Nat} {A : Nat → Nat → Int} (h : MM N A) : ∀ k, k ≤ N → PP N A k
  | 0, _ => PP_zero h
  | k + 1, hk => PP_succ h (by omega) (PP_all h k (by omega))
theorem D_pos {N : Nat} {A : Nat → Nat → Int} (h : MM N A) {k : Nat} (hk : k ≤ N) : 0 < dt k A := (PP_all h k hk).1
theorem D_le {N : Nat} {A : Nat → Nat → Int} (h : MM N A) : ∀ k, k ≤ N → dt k A ≤ 7 ^ k
  | 0, _ => Int.le_refl _
  | k + 1, hk => by
    have h1 := D_le h k (by omega)
    have h2 := (PP_all h k (by omega)).2.2.2.2 k (Nat.le_refl k) (by omega)
    rw [Ss_piv] at h2
    rw [Int.pow_succ]
    omega
/-- off the diagonal the entries are at most the diagonal's -/
theorem S_bd {N : Nat} {A : Nat → Nat → Int} (h : MM N A) {k r c : Nat} (hkr : k ≤ r) (hr : r < N) (hkc : k ≤ c) (hc : c < N) : -Ss k A r (col A r) ≤ Ss k A r (col A c) ∧ Ss k A r (col A c) ≤ Ss k A r (col A r) := by
  obtain ⟨p0, p1, p2, p3, p4⟩ := PP_all h k (by omega)
  have hneg : ∀ i, i < N → i ≠ r → (fun c => if k ≤ c then Ss k A r (col A c) else 0) i ≤ 0 := fun i hi q => by
    show (if k ≤ i then Ss k A r (col A i) else 0) ≤ 0
    by_cases q2 : k ≤ i
    · rw [if_pos q2]; exact p2 r i hkr hr q2 hi (fun z => q z.symm)
    · rw [if_neg q2]; exact Int.le_refl _
  have h0 := p3 r hkr hr
  have h1 := sm_le_one hr hneg
  rw [if_pos hkr] at h1
  by_cases q : c = r
  · subst q; omega
  · have h2 := sm_le_two hr hc q hneg
    have h3 := p2 r c hkr hr hkc hc (fun z => q z.symm)
    rw [if_pos hkr, if_pos hkc] at h2
    omega
/-- the right side: the sum of the sizes left grows with the divisor alone -/
theorem Sb_sum {N : Nat} {A : Nat → Nat → Int} (h : MM N A) (b : Nat → Int) : ∀ k, k ≤ N → sm N (fun r => if k ≤ r then ((Ss k A r b).natAbs : Int) else 0) ≤ dt k A * sm N (fun r => ((b r).natAbs : Int))
  | 0, _ => by
    rw [sm_congr (g := fun r => ((b r).natAbs : Int)) (fun r _ => by rw [if_pos (Nat.zero_le r), Ss_zero])]
    show _ ≤ 1 * _
    omega
  | k + 1, hk => by
    have hk' : k < N := by omega
    have ih := Sb_sum h b k (by omega)
    have p0 := D_pos h (show k ≤ N by omega)
    have p1 := D_pos h hk
    have hrow : ∀ r, k < r → r < N → dt k A * ((Ss (k + 1) A r b).natAbs : Int) ≤ dt (k + 1) A * ((Ss k A r b).natAbs : Int) - Ss k A k (col A r) * ((Ss k A k b).natAbs : Int) := by
      intro r h1 h2
      have e1 := rec_S h.1 hk' (by omega) (by omega) b r
      have e2 := (PP_all h k (by omega)).2.1 k r (Nat.le_refl k) hk' (by omega) h2
      have e3 := (PP_all h k (by omega)).2.2.1 k r (Nat.le_refl k) hk' (by omega) h2 (by omega)
      have u1 : (dt k A * Ss (k + 1) A r b).natAbs = (dt k A).natAbs * (Ss (k + 1) A r b).natAbs := Int.natAbs_mul _ _
      have u2 : (dt (k + 1) A * Ss k A r b).natAbs = (dt (k + 1) A).natAbs * (Ss k A r b).natAbs := Int.natAbs_mul _ _
      have u3 : (Ss k A r (col A k) * Ss k A k b).natAbs = (Ss k A r (col A k)).natAbs * (Ss k A k b).natAbs := Int.natAbs_mul _ _
      have v1 : (((dt k A).natAbs * (Ss (k + 1) A r b).natAbs : Nat) : Int) = dt k A * ((Ss (k + 1) A r b).natAbs : Int) := by
        rw [Int.natCast_mul]; congr 1; omega
      have v2 : (((dt (k + 1) A).natAbs * (Ss k A r b).natAbs : Nat) : Int) = dt (k + 1) A * ((Ss k A r b).natAbs : Int) := by
        rw [Int.natCast_mul]; congr 1; omega
      have v3 : (((Ss k A r (col A k)).natAbs * (Ss k A k b).natAbs : Nat) : Int) = -(Ss k A k (col A r) * ((Ss k A k b).natAbs : Int)) := by
        rw [Int.natCast_mul, ← Int.neg_mul]; congr 1; omega
      rw [← v1, ← v2, ← u1, ← u2]
      rw [← u3] at v3
      omega
    have hstep : dt k A * sm N (fun r => if k + 1 ≤ r then ((Ss (k + 1) A r b).natAbs : Int) else 0) ≤ dt (k + 1) A * sm N (fun r => if k ≤ r then ((Ss k A r b).natAbs : Int) else 0) - ((Ss k A k b).natAbs : Int) * sm N (fun r => if k ≤ r then Ss k A k (col A r) else 0) := by
      rw [← sm_mul, ← sm_mul, ← sm_mul, ← sm_sub]
      apply sm_le
      intro r hr
      by_cases q : k + 1 ≤ r
      · rw [if_pos q, if_pos (by omega), if_pos (by omega), Int.mul_comm ((Ss k A k b).natAbs : Int)]
        exact hrow r (by omega) hr
      · rw [if_neg q, Int.mul_zero]
        by_cases q2 : k ≤ r
        · have e : r = k := by omega
          subst e
          rw [if_pos (Nat.le_refl r), if_pos (Nat.le_refl r), Ss_piv, Int.mul_comm ((Ss r A r b).natAbs : Int)]
          omega
        · rw [if_neg q2, if_neg q2, Int.mul_zero, Int.mul_zero]; exact Int.le_refl _
    have hrs := (PP_all h k (by omega)).2.2.2.1 k (Nat.le_refl k) hk'
    have w1 := Int.mul_nonneg (show (0 : Int) ≤ ((Ss k A k b).natAbs : Int) by omega) hrs
    have w2 := Int.mul_le_mul_of_nonneg_left ih (show 0 ≤ dt (k + 1) A by omega)
    have w3 := dv_ge (x := dt (k + 1) A * sm N (fun r => ((b r).natAbs : Int)) - sm N (fun r => if k + 1 ≤ r then ((Ss (k + 1) A r b).natAbs : Int) else 0)) p0 (by
      rw [Int.mul_sub]
      have e1 : dt k A * (dt (k + 1) A * sm N (fun r => ((b r).natAbs : Int))) = dt (k + 1) A * (dt k A * sm N (fun r => ((b r).natAbs : Int))) := by
        generalize sm N (fun r => ((b r).natAbs : Int)) = t
        generalize dt k A = d; generalize dt (k + 1) A = d1
        grind
      omega)
    omega
theorem sm_ge_one {f : Nat → Int} {n i : Nat} (h : ∀ j, j < n → 0 ≤ f j) (hi : i < n) : f i ≤ sm n f := by
  have := sm_le_one (f := fun j => -f j) hi (fun j hj _ => by have := h j hj; omega)
  rw [sm_neg] at this
  omega
theorem Sb_bd {N : Nat} {A : Nat → Nat → Int} (h : MM N A) (hN : N ≤ 7) {b : Nat → Int} (hb : ∀ r, r < N → -1400000 ≤ b r ∧ b r ≤ 1400000) {k r : Nat} (hk : k ≤ N) (hkr : k ≤ r) (hr : r < N) : -(7 ^ k * 9800000) ≤ Ss k A r b ∧ Ss k A r b ≤ 7 ^ k * 9800000 := by
  have h1 := Sb_sum h b k hk
  have h2 := sm_ge_one (f := fun r => if k ≤ r then ((Ss k A r b).natAbs : Int) else 0) (n := N) (i := r) (fun j _ => by
    show (0 : Int) ≤ if k ≤ j then ((Ss k A j b).natAbs : Int) else 0
    split <;> omega) hr
  rw [if_pos hkr] at h2
  have h3 := sm_bd (f := fun r => ((b r).natAbs : Int)) (c := 1400000) (n := N) (fun i hi => by have := hb i hi; omega)
  have h4 := D_le h k hk
  have h5 := D_pos h hk
  have h6 : sm N (fun r => ((b r).natAbs : Int)) ≤ 9800000 := by omega
  have h7 : 0 ≤ sm N (fun r => ((b r).natAbs : Int)) := sm_nonneg (fun i _ => by omega)
  have h8 := Int.mul_le_mul h4 h6 h7 (show (0 : Int) ≤ 7 ^ k by omega)
  omega
