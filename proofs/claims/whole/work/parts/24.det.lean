/-! determinants by the last row; Cramer -/
def sk (j c : Nat) : Nat := if c < j then c else c + 1
def un (j q : Nat) : Nat := if q < j then q else q - 1
def sg (n : Nat) : Int := if n % 2 = 0 then 1 else -1
def dt : Nat → (Nat → Nat → Int) → Int
  | 0, _ => 1
  | n + 1, A => sm (n + 1) (fun j => sg (n + j) * A n j * dt n (fun r c => A r (sk j c)))
theorem sk_le {j c n : Nat} (hj : j ≤ n) (hc : c < n) : sk j c ≤ n := by unfold sk; split <;> omega
theorem sk_ne (j c : Nat) : sk j c ≠ j := by unfold sk; split <;> omega
theorem un_sk (j l : Nat) : un j (sk j l) = l := by
  unfold sk un
  repeat' split
  all_goals omega
theorem sg_mul (a b : Nat) : sg a * sg b = sg (a + b) := by
  unfold sg
  rcases Nat.mod_two_eq_zero_or_one a with h1 | h1 <;> rcases Nat.mod_two_eq_zero_or_one b with h2 | h2
  · rw [if_pos h1, if_pos h2, if_pos (by omega)]; rfl
  · rw [if_pos h1, if_neg (by omega), if_neg (by omega)]; rfl
  · rw [if_neg (by omega), if_pos h2, if_neg (by omega)]; rfl
  · rw [if_neg (by omega), if_neg (by omega), if_pos (by omega)]; rfl
theorem sg_even (a : Nat) : sg (a + a) = 1 := by unfold sg; rw [if_pos (by omega)]
theorem sg_succ (a : Nat) : sg (a + 1) = -sg a := by
  unfold sg
  rcases Nat.mod_two_eq_zero_or_one a with h1 | h1
  · rw [if_pos h1, if_neg (by omega)]
  · rw [if_pos (show (a + 1) % 2 = 0 by omega), if_neg (show ¬ a % 2 = 0 by omega)]; rfl
theorem dt_congr : ∀ {n : Nat} {A B : Nat → Nat → Int}, (∀ r c, r < n → c < n → A r c = B r c) → dt n A = dt n B
  | 0, _, _, _ => rfl
  | n + 1, A, B, h => by
    show sm (n + 1) _ = sm (n + 1) _
    apply sm_congr
    intro j hj
    rw [h n j (by omega) hj, dt_congr (n := n) (A := fun r c => A r (sk j c)) (B := fun r c => B r (sk j c)) (fun r c hr hc => h r (sk j c) (by omega) (by have := sk_le (show j ≤ n by omega) hc; omega))]
theorem sm_skip (g : Nat → Int) {j : Nat} : ∀ {n : Nat}, j ≤ n → sm n (fun l => g (sk j l)) = sm (n + 1) (fun q => if q = j then 0 else g q)
  | 0, h => by
    have e : j = 0 := by omega
    subst e
    rfl
  | n + 1, h => by
    show sm n (fun l => g (sk j l)) + g (sk j n) = sm (n + 1) _ + (if n + 1 = j then 0 else g (n + 1))
    by_cases e : j = n + 1
    · subst e
      rw [if_pos rfl]
      have h1 : sm n (fun l => g (sk (n + 1) l)) = sm n g := sm_congr (fun i hi => by unfold sk; rw [if_pos (by omega)])
      have h2 : sm (n + 1) (fun q => if q = n + 1 then 0 else g q) = sm (n + 1) g := sm_congr (fun i hi => if_neg (by omega))
      rw [h1, h2, show sk (n + 1) n = n by unfold sk; rw [if_pos (by omega)]]
      show _ = sm n g + g n + 0
      omega
    · rw [sm_skip g (n := n) (by omega), if_neg (by omega), show sk j n = n + 1 by unfold sk; rw [if_neg (by omega)]]
/-- the last two rows, changed -/
def swp (n : Nat) (A : Nat → Nat → Int) : Nat → Nat → Int := fun r c => if r = n then A (n + 1) c else if r = n + 1 then A n c else A r c
theorem sk2 (j q c : Nat) (h : q ≠ j) : sk j (sk (un j q) c) = sk q (sk (un q j) c) := by
  unfold sk un
  by_cases h1 : q < j
  · rw [if_pos h1, if_neg (show ¬ j < q by omega)]
    repeat' split
    all_goals omega
  · rw [if_neg h1, if_pos (show j < q by omega)]
    repeat' split
    all_goals omega
theorem sg2 (n j q : Nat) (h : q ≠ j) : sg (n + 1 + j) * sg (n + un j q) = -(sg (n + 1 + q) * sg (n + un q j)) := by
  rw [sg_mul, sg_mul]
  unfold un
  by_cases h1 : q < j
  · rw [if_pos h1, if_neg (show ¬ j < q by omega), show n + 1 + j + (n + q) = (n + 1 + q + (n + (j - 1))) + 1 by omega, sg_succ]
  · rw [if_neg h1, if_pos (show j < q by omega), show n + 1 + q + (n + j) = (n + 1 + j + (n + (q - 1))) + 1 by omega, sg_succ, Int.neg_neg]
theorem dt2 (n : Nat) (A : Nat → Nat → Int) : dt (n + 2) A = sm (n + 2) (fun j => sm (n + 2) (fun q => if q = j then 0 else sg (n + 1 + j) * A (n + 1) j * (sg (n + un j q) * A n q * dt n (fun r c => A r (sk j (sk (un j q) c)))))) := by
  show sm (n + 2) _ = _
  apply sm_congr
  intro j hj
  have h1 : dt (n + 1) (fun r c => A r (sk j c)) = sm (n + 2) (fun q => if q = j then 0 else sg (n + un j q) * A n q * dt n (fun r c => A r (sk j (sk (un j q) c)))) := by
    rw [← sm_skip (fun q => sg (n + un j q) * A n q * dt n (fun r c => A r (sk j (sk (un j q) c)))) (show j ≤ n + 1 by omega)]
    show sm (n + 1) _ = _
    apply sm_congr
    intro l hl
    rw [un_sk]
  rw [h1, ← sm_mul]
  apply sm_congr
  intro q hq
  by_cases e : q = j
  · rw [if_pos e, if_pos e, Int.mul_zero]
  · rw [if_neg e, if_neg e]
theorem dt_swap (n : Nat) (A : Nat → Nat → Int) : dt (n + 2) (swp n A) = -dt (n + 2) A := by
  rw [dt2, dt2, sm_comm, ← sm_neg]
  apply sm_congr
  intro j hj
  rw [← sm_neg]
  apply sm_congr
  intro q hq
  by_cases e : q = j
  · rw [if_pos e.symm, if_pos e]; rfl
  · rw [if_neg (fun z => e z.symm), if_neg e]
    have e1 : swp n A (n + 1) q = A n q := by unfold swp; rw [if_neg (by omega), if_pos rfl]
    have e2 : swp n A n j = A (n + 1) j := by unfold swp; rw [if_pos rfl]
    have e3 : dt n (fun r c => swp n A r (sk q (sk (un q j) c))) = dt n (fun r c => A r (sk j (sk (un j q) c))) := by
      apply dt_congr
      intro r c hr hc
      rw [← sk2 j q c e]
      unfold swp
      rw [if_neg (by omega), if_neg (by omega)]
    have h := sg2 n j q e
    rw [e1, e2, e3]
    generalize dt n (fun r c => A r (sk j (sk (un j q) c))) = d
    generalize sg (n + 1 + j) = s1 at *
    generalize sg (n + un j q) = s2 at *
    generalize sg (n + 1 + q) = s3 at *
    generalize sg (n + un q j) = s4 at *
    grind
theorem dt_dup : ∀ {n : Nat} {A : Nat → Nat → Int} {i : Nat}, i < n → (∀ c, c ≤ n → A i c = A n c) → dt (n + 1) A = 0
  | 0, A, i, hi, _ => by omega
  | n + 1, A, i, hi, h => by
    by_cases e : i = n
    · subst e
      have h1 := dt_swap i A
      have h2 : dt (i + 2) (swp i A) = dt (i + 2) A := dt_congr (fun r c hr hc => by
        unfold swp
        by_cases q : r = i
        · rw [if_pos q, q]; exact (h c (by omega)).symm
        · rw [if_neg q]
          by_cases q2 : r = i + 1
          · rw [if_pos q2, q2]; exact h c (by omega)
          · rw [if_neg q2])
      rw [h2] at h1
      show dt (i + 2) A = 0
      omega
    · have h1 := dt_swap n A
      have h2 : dt (n + 2) (swp n A) = 0 := by
        show sm (n + 2) _ = 0
        apply sm_zero
        intro j hj
        have h3 : dt (n + 1) (fun r c => swp n A r (sk j c)) = 0 := by
          apply dt_dup (n := n) (i := i) (by omega)
          intro c hc
          show swp n A i (sk j c) = swp n A n (sk j c)
          have hs := sk_le (show j ≤ n + 1 by omega) (show c < n + 1 by omega)
          unfold swp
          rw [if_neg (by omega), if_neg (by omega), if_pos rfl]
          exact h _ hs
        rw [h3, Int.mul_zero]
      rw [h2] at h1
      show dt (n + 2) A = 0
      omega
/-- a column v beside the first k columns -/
def bc (k : Nat) (A : Nat → Nat → Int) (v : Nat → Int) : Nat → Nat → Int := fun r c => if c = k then v r else A r c
/-- Cramer's numbers -/
def Gs (k : Nat) (A : Nat → Nat → Int) (v : Nat → Int) (j : Nat) : Int := -(sg (k + j) * dt k (fun r c => bc k A v r (sk j c)))
theorem bc_last (k : Nat) (A : Nat → Nat → Int) (v : Nat → Int) : dt k (fun r c => bc k A v r (sk k c)) = dt k A := by
  apply dt_congr
  intro r c hr hc
  unfold bc sk
  rw [if_pos hc, if_neg (by omega)]
theorem cramer {k : Nat} (A : Nat → Nat → Int) (v : Nat → Int) {r : Nat} (hr : r < k) : sm k (fun j => A r j * Gs k A v j) = dt k A * v r := by
  have h0 : dt (k + 1) (fun a c => if a = k then bc k A v r c else bc k A v a c) = 0 := by
    apply dt_dup (i := r) hr
    intro c hc
    rw [if_neg (by omega), if_pos rfl]
  have h1 : dt (k + 1) (fun a c => if a = k then bc k A v r c else bc k A v a c) = sm k (fun j => -(A r j * Gs k A v j)) + dt k A * v r := by
    show sm k _ + _ = _
    have e1 : ∀ j, dt k (fun a c => if a = k then bc k A v r (sk j c) else bc k A v a (sk j c)) = dt k (fun a c => bc k A v a (sk j c)) := fun j => dt_congr (fun a c ha hc => if_neg (by omega))
    congr 1
    · apply sm_congr
      intro j hj
      show sg (k + j) * (if k = k then bc k A v r j else bc k A v k j) * dt k (fun a c => if a = k then bc k A v r (sk j c) else bc k A v a (sk j c)) = _
      rw [e1, if_pos rfl]
      unfold Gs
      rw [show bc k A v r j = A r j by unfold bc; rw [if_neg (by omega)]]
      generalize dt k (fun a c => bc k A v a (sk j c)) = d
      generalize sg (k + j) = s
      grind
    · show sg (k + k) * (if k = k then bc k A v r k else bc k A v k k) * dt k (fun a c => if a = k then bc k A v r (sk k c) else bc k A v a (sk k c)) = _
      rw [e1, if_pos rfl, bc_last, sg_even, show bc k A v r k = v r by unfold bc; rw [if_pos rfl]]
      grind
  rw [h1, sm_neg] at h0
  omega
theorem dt_next (k : Nat) (A : Nat → Nat → Int) : dt (k + 1) A = A k k * dt k A - sm k (fun j => A k j * Gs k A (fun r => A r k) j) := by
  show sm k _ + sg (k + k) * A k k * dt k (fun r c => A r (sk k c)) = _
  have e1 : ∀ j, dt k (fun r c => A r (sk j c)) = dt k (fun r c => bc k A (fun r => A r k) r (sk j c)) := fun j => dt_congr (fun r c hr hc => by
    unfold bc
    by_cases q : sk j c = k
    · rw [if_pos q, q]
    · rw [if_neg q])
  rw [e1 k, bc_last, sg_even]
  have e2 : sm k (fun j => sg (k + j) * A k j * dt k (fun r c => A r (sk j c))) = sm k (fun j => -(A k j * Gs k A (fun r => A r k) j)) := by
    apply sm_congr
    intro j hj
    rw [e1 j]
    unfold Gs
    generalize dt k (fun r c => bc k A (fun r => A r k) r (sk j c)) = d
    generalize sg (k + j) = s
    grind
  rw [e2, sm_neg]
  grind
