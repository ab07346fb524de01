/-! Bareiss' elimination of a symmetric matrix, and its ranges -/
abbrev Sy (N : Nat) (A : Nat → Nat → Int) : Prop := ∀ r c, r < N → c < N → A r c = A c r
abbrev col (A : Nat → Nat → Int) (c : Nat) : Nat → Int := fun r => A r c
/-- the row r of what is left behind k steps, at the column v -/
def Ss (k : Nat) (A : Nat → Nat → Int) (r : Nat) (v : Nat → Int) : Int := dt k A * v r - sm k (fun j => A r j * Gs k A v j)
theorem Ss_piv (k : Nat) (A : Nat → Nat → Int) : Ss k A k (col A k) = dt (k + 1) A := by
  rw [dt_next]
  unfold Ss
  show dt k A * A k k - sm k (fun j => A k j * Gs k A (fun r => A r k) j) = _
  rw [Int.mul_comm]
theorem Ss_zero (A : Nat → Nat → Int) (r : Nat) (v : Nat → Int) : Ss 0 A r v = v r := by
  unfold Ss
  show 1 * v r - 0 = v r
  omega
theorem Ss_done {k : Nat} (A : Nat → Nat → Int) {r : Nat} (v : Nat → Int) (hr : r < k) : Ss k A r v = 0 := by
  unfold Ss
  rw [cramer A v hr]
  omega
theorem inj_z {N k : Nat} {A : Nat → Nat → Int} (hs : Sy N A) (hk : k ≤ N) (hD : dt k A ≠ 0) {z : Nat → Int} (hz : ∀ r, r < k → sm k (fun j => A r j * z j) = 0) : ∀ i, i < k → z i = 0 := by
  intro i hi
  have h1 : sm k (fun r => z r * sm k (fun j => A r j * Gs k A (fun q => if q = i then 1 else 0) j)) = z i * dt k A := by
    rw [sm_one (k := i) hi]
    · rw [cramer A _ hi, if_pos rfl, Int.mul_one]
    · intro q hq hne
      rw [cramer A _ hq, if_neg hne, Int.mul_zero, Int.mul_zero]
  have h2 : sm k (fun r => z r * sm k (fun j => A r j * Gs k A (fun q => if q = i then 1 else 0) j)) = 0 := by
    have e1 : sm k (fun r => z r * sm k (fun j => A r j * Gs k A (fun q => if q = i then 1 else 0) j)) = sm k (fun r => sm k (fun j => Gs k A (fun q => if q = i then 1 else 0) j * (A j r * z r))) := by
      apply sm_congr
      intro r hr
      rw [← sm_mul]
      apply sm_congr
      intro j hj
      rw [hs r j (by omega) (by omega)]
      generalize Gs k A (fun q => if q = i then 1 else 0) j = g
      grind
    rw [e1, sm_comm]
    apply sm_zero
    intro j hj
    rw [sm_mul, hz j hj, Int.mul_zero]
  rw [h2] at h1
  rcases Int.mul_eq_zero.mp h1.symm with h | h
  · exact h
  · exact absurd h hD
theorem inj_eq {N k : Nat} {A : Nat → Nat → Int} (hs : Sy N A) (hk : k ≤ N) (hD : dt k A ≠ 0) {x z : Nat → Int} (h : ∀ r, r < k → sm k (fun j => A r j * x j) = sm k (fun j => A r j * z j)) : ∀ i, i < k → x i = z i := by
  have := inj_z hs hk hD (z := fun i => x i - z i) (fun r hr => by
    have e : sm k (fun j => A r j * (x j - z j)) = sm k (fun j => A r j * x j) - sm k (fun j => A r j * z j) := by
      rw [← sm_sub]
      exact sm_congr (fun j _ => Int.mul_sub _ _ _)
    rw [e, h r hr]; omega)
  intro i hi
  have := this i hi
  omega
theorem rec_Y {N k : Nat} {A : Nat → Nat → Int} (hs : Sy N A) (hk : k < N) (hD : dt (k + 1) A ≠ 0) (v : Nat → Int) : (∀ j, j < k → dt (k + 1) A * Gs k A v j - Gs k A (col A k) j * Ss k A k v = dt k A * Gs (k + 1) A v j) ∧ dt k A * Ss k A k v = dt k A * Gs (k + 1) A v k := by
  have key := inj_eq hs (show k + 1 ≤ N by omega) hD (x := fun j => if j < k then dt (k + 1) A * Gs k A v j - Gs k A (col A k) j * Ss k A k v else dt k A * Ss k A k v) (z := fun j => dt k A * Gs (k + 1) A v j) (fun r hr => by
    have e1 : sm (k + 1) (fun j => A r j * (dt k A * Gs (k + 1) A v j)) = dt k A * (dt (k + 1) A * v r) := by
      rw [← cramer A v hr, ← sm_mul]
      exact sm_congr (fun j _ => by grind)
    rw [e1]
    show sm k _ + A r k * (if k < k then _ else dt k A * Ss k A k v) = _
    rw [if_neg (by omega)]
    have e2 : sm k (fun j => A r j * (if j < k then dt (k + 1) A * Gs k A v j - Gs k A (col A k) j * Ss k A k v else dt k A * Ss k A k v)) = dt (k + 1) A * sm k (fun j => A r j * Gs k A v j) - sm k (fun j => A r j * Gs k A (col A k) j) * Ss k A k v := by
      rw [← sm_mul, ← sm_mulr, ← sm_sub]
      apply sm_congr
      intro j hj
      rw [if_pos hj]
      generalize Ss k A k v = s
      generalize Gs k A v j = g
      generalize Gs k A (col A k) j = g2
      generalize dt (k + 1) A = d
      grind
    rw [e2]
    by_cases q : r < k
    · rw [cramer A v q, cramer A (col A k) q]
      generalize Ss k A k v = s
      generalize dt (k + 1) A = d
      generalize dt k A = d0
      show d * (d0 * v r) - d0 * A r k * s + A r k * (d0 * s) = _
      grind
    · have er : r = k := by omega
      subst er
      have h1 : sm r (fun j => A r j * Gs r A v j) = dt r A * v r - Ss r A r v := by unfold Ss; omega
      have h2 : sm r (fun j => A r j * Gs r A (col A r) j) = A r r * dt r A - dt (r + 1) A := by
        have q1 := Ss_piv r A
        unfold Ss at q1
        have q2 : dt r A * col A r r = A r r * dt r A := Int.mul_comm _ _
        omega
      rw [h1, h2]
      generalize Ss r A r v = s
      generalize dt (r + 1) A = d
      generalize dt r A = d0
      grind)
  refine ⟨fun j hj => ?_, ?_⟩
  · have := key j (by omega)
    rw [if_pos hj] at this
    exact this
  · have := key k (by omega)
    rw [if_neg (by omega)] at this
    exact this
theorem rec_G {N k : Nat} {A : Nat → Nat → Int} (hs : Sy N A) (hk : k < N) (hD : dt (k + 1) A ≠ 0) (v : Nat → Int) {j : Nat} (hj : j < k) : dt k A * Gs (k + 1) A v j = dt (k + 1) A * Gs k A v j - Gs k A (col A k) j * Ss k A k v := ((rec_Y hs hk hD v).1 j hj).symm
theorem rec_K {N k : Nat} {A : Nat → Nat → Int} (hs : Sy N A) (hk : k < N) (h0 : dt k A ≠ 0) (hD : dt (k + 1) A ≠ 0) (v : Nat → Int) : Gs (k + 1) A v k = Ss k A k v := (Int.eq_of_mul_eq_mul_left h0 (rec_Y hs hk hD v).2).symm
theorem rec_S {N k : Nat} {A : Nat → Nat → Int} (hs : Sy N A) (hk : k < N) (h0 : dt k A ≠ 0) (hD : dt (k + 1) A ≠ 0) (v : Nat → Int) (r : Nat) : dt k A * Ss (k + 1) A r v = dt (k + 1) A * Ss k A r v - Ss k A r (col A k) * Ss k A k v := by
  have e1 : dt k A * Ss (k + 1) A r v = dt k A * (dt (k + 1) A * v r) - (sm k (fun j => A r j * (dt k A * Gs (k + 1) A v j)) + A r k * (dt k A * Ss k A k v)) := by
    unfold Ss
    rw [show sm (k + 1) (fun j => A r j * Gs (k + 1) A v j) = sm k (fun j => A r j * Gs (k + 1) A v j) + A r k * Gs (k + 1) A v k from rfl, rec_K hs hk h0 hD v]
    rw [show sm k (fun j => A r j * (dt k A * Gs (k + 1) A v j)) = dt k A * sm k (fun j => A r j * Gs (k + 1) A v j) by rw [← sm_mul]; exact sm_congr (fun j _ => by grind)]
    unfold Ss
    grind
  have e2 : sm k (fun j => A r j * (dt k A * Gs (k + 1) A v j)) = dt (k + 1) A * sm k (fun j => A r j * Gs k A v j) - sm k (fun j => A r j * Gs k A (col A k) j) * Ss k A k v := by
    rw [← sm_mul, ← sm_mulr, ← sm_sub]
    apply sm_congr
    intro j hj
    rw [rec_G hs hk hD v hj]
    generalize Ss k A k v = s
    generalize Gs k A v j = g
    generalize Gs k A (col A k) j = g2
    generalize dt (k + 1) A = d
    grind
  rw [e1, e2]
  have h1 : sm k (fun j => A r j * Gs k A v j) = dt k A * v r - Ss k A r v := by unfold Ss; omega
  have h2 : sm k (fun j => A r j * Gs k A (col A k) j) = dt k A * A r k - Ss k A r (col A k) := by
    unfold Ss
    show _ = dt k A * A r k - (dt k A * A r k - _)
    omega
  rw [h1, h2]
  generalize Ss k A k v = s
  generalize Ss k A r v = s1
  generalize Ss k A r (col A k) = s2
  generalize dt (k + 1) A = d
  generalize dt k A = d0
  grind
