/-! the matrix as it is filled, pair by pair; the solving from below -/
theorem pair_row {F : Nat → Nat → Int} {X Y : Nat → Int} {n a : Nat} (ha : a < n) (h : ∀ p q, p < q → q < n → F p q = (if p = a then X q else 0) + (if q = a then Y p else 0)) : sm n (fun p => sm n (fun q => if p < q then F p q else 0)) = sm n (fun k => if a < k then X k else if k < a then Y k else 0) := by
  have e1 : sm n (fun p => sm n (fun q => if p < q then F p q else 0)) = sm n (fun p => sm n (fun q => if p = a then (if p < q then X q else 0) else 0)) + sm n (fun p => sm n (fun q => if q = a then (if p < q then Y p else 0) else 0)) := by
    rw [← sm_add]
    apply sm_congr
    intro p hp
    rw [← sm_add]
    apply sm_congr
    intro q hq
    by_cases q1 : p < q
    · rw [if_pos q1, if_pos q1, if_pos q1, h p q q1 hq]
    · rw [if_neg q1, if_neg q1, if_neg q1]
      split <;> split <;> rfl
  have e2 : sm n (fun p => sm n (fun q => if p = a then (if p < q then X q else 0) else 0)) = sm n (fun q => if a < q then X q else 0) := by
    rw [sm_one (f := fun p => sm n (fun q => if p = a then (if p < q then X q else 0) else 0)) (k := a) ha (fun i _ q => sm_zero (fun j _ => if_neg q))]
    exact sm_congr (fun q _ => if_pos rfl)
  have e3 : sm n (fun p => sm n (fun q => if q = a then (if p < q then Y p else 0) else 0)) = sm n (fun p => if p < a then Y p else 0) := by
    apply sm_congr
    intro p hp
    rw [sm_one (f := fun q => if q = a then (if p < q then Y p else 0) else 0) (k := a) ha (fun i _ q => if_neg q), if_pos rfl]
  rw [e1, e2, e3, ← sm_add]
  apply sm_congr
  intro k hk
  by_cases q1 : a < k
  · rw [if_pos q1, if_neg (by omega), if_pos q1]; omega
  · by_cases q2 : k < a
    · simp [q1, q2]
    · simp [q1, q2]
/-- what the model adds at (a, b) for the pair i < j -/
noncomputable def kM (e : Nat → Nat → Prop) (w : Nat → Nat → Int) (a b i j : Nat) : Int := cif (e i j) ((if a = i ∧ b = i then 1 else 0) + (if a = j ∧ b = j then 1 else 0) - (if a = i ∧ b = j then 1 else 0) - (if a = j ∧ b = i ∧ i ≠ 0 then 1 else 0) + (if a = i ∧ b = 0 ∧ i ≠ 0 then w i j else 0) - (if a = j ∧ b = 0 then w i j else 0)) 0
/-- what the class adds at (a, b) for the pair p < q, with the right side in column R -/
noncomputable def kC (e : Nat → Nat → Prop) (w : Nat → Nat → Int) (R a b p q : Nat) : Int := cif (e p q) ((if a = p ∧ b = p then 1 else 0) + (if a = p ∧ b = R then w p q else 0) + (if q < R then (if a = q ∧ b = q then 1 else 0) - (if a = p ∧ b = q then 1 else 0) - (if a = q ∧ b = p then 1 else 0) - (if a = q ∧ b = R then w p q else 0) else 0)) 0
theorem cif_add {p : Prop} {x z : Int} : cif p (x + z) 0 = cif p x 0 + cif p z 0 := by
  by_cases h : p
  · rw [cif_pos h, cif_pos h, cif_pos h]
  · rw [cif_neg h, cif_neg h, cif_neg h]; rfl
theorem asm_M {e : Nat → Nat → Prop} {w : Nat → Nat → Int} {n a b : Nat} (ha : a < n) (hb : b < n) (ha0 : a ≠ 0) : sm n (fun p => sm n (fun q => if p < q then kM e w a b p q else 0)) = if b = 0 then bb e w n a else La e n a b := by
  rw [pair_row (X := fun q => cif (e a q) ((if b = a then 1 else 0) - (if b = q then 1 else 0) + (if b = 0 then w a q else 0)) 0) (Y := fun p => cif (e p a) ((if b = a then 1 else 0) - (if b = p ∧ p ≠ 0 then 1 else 0) - (if b = 0 then w p a else 0)) 0) ha (fun p q hpq hq => by
    unfold kM
    by_cases h : e p q
    · rw [cif_pos h]
      by_cases q1 : p = a
      · subst q1
        rw [if_pos rfl, if_neg (show ¬ q = p by omega), cif_pos h]
        by_cases q2 : b = p
        · subst q2
          simp [show b ≠ 0 by omega, show ¬ b = q by omega]
        · by_cases q3 : b = q
          · subst q3
            simp [q2, show ¬ p = b by omega, show b ≠ 0 by omega]
          · by_cases q4 : b = 0
            · subst q4
              simp [q2, q3, show ¬ p = q by omega, ha0, show ¬ 0 = p by omega, show ¬ 0 = q by omega]
            · simp [q2, q3, q4, show ¬ p = q by omega]
      · by_cases q2 : q = a
        · subst q2
          rw [if_neg q1, if_pos rfl, cif_pos h]
          by_cases q3 : b = q
          · subst q3
            simp [show ¬ b = p by omega, show b ≠ 0 by omega]
          · by_cases q4 : b = p
            · subst q4
              by_cases q5 : b = 0
              · subst q5
                simp [show ¬ q = 0 by omega, show ¬ 0 = q by omega]
              · simp [show ¬ q = b by omega, show ¬ b = q by omega, q5]
            · by_cases q5 : b = 0
              · subst q5
                simp [q3, q4, show ¬ q = p by omega, show ¬ 0 = q by omega, show ¬ 0 = p by omega]
              · simp [q3, q4, q5, show ¬ q = p by omega]
        · rw [if_neg q1, if_neg q2]
          simp [show ¬ a = p by omega, show ¬ a = q by omega]
    · rw [cif_neg h]
      by_cases q1 : p = a
      · subst q1
        rw [if_pos rfl, if_neg (show ¬ q = p by omega), cif_neg h]; rfl
      · rw [if_neg q1]
        by_cases q2 : q = a
        · subst q2
          rw [if_pos rfl, cif_neg h]; rfl
        · rw [if_neg q2]; rfl)]
  by_cases q0 : b = 0
  · subst q0
    rw [if_pos rfl]
    unfold bb
    apply sm_congr
    intro k hk
    unfold ws
    by_cases q1 : a < k
    · rw [if_pos q1, if_pos q1]
      congr 1
      simp [show ¬ 0 = a by omega, show ¬ 0 = k by omega]
    · rw [if_neg q1, if_neg q1]
      by_cases q2 : k < a
      · rw [if_pos q2, if_pos q2]
        by_cases h : e k a
        · rw [cif_pos h, cif_pos h]
          by_cases q3 : k = 0
          · subst q3; simp [show ¬ 0 = a by omega]
          · simp [show ¬ 0 = a by omega, show ¬ 0 = k by omega]
        · rw [cif_neg h, cif_neg h]; rfl
      · rw [if_neg q2, if_neg q2]
  · rw [if_neg q0]
    unfold La
    by_cases q1 : a = b
    · subst q1
      rw [if_pos rfl, if_pos rfl]
      apply sm_congr
      intro k hk
      unfold es
      by_cases q1 : a < k
      · rw [if_pos q1, if_pos q1]
        congr 1
        simp [show ¬ a = k by omega, q0]
      · rw [if_neg q1, if_neg q1]
        by_cases q2 : k < a
        · rw [if_pos q2, if_pos q2]
          congr 1
          simp [show ¬ a = k by omega, q0]
        · rw [if_neg q2, if_neg q2]
    · rw [if_neg q1]
      rw [sm_one (k := b) hb (fun k hk q => by
        by_cases q1 : a < k
        · rw [if_pos q1]
          by_cases h : e a k
          · rw [cif_pos h]; simp [show ¬ b = a by omega, show ¬ b = k by omega, q0]
          · rw [cif_neg h]
        · rw [if_neg q1]
          by_cases q2 : k < a
          · rw [if_pos q2]
            by_cases h : e k a
            · rw [cif_pos h]; simp [show ¬ b = a by omega, show ¬ b = k by omega, q0]
            · rw [cif_neg h]
          · rw [if_neg q2])]
      unfold es
      by_cases q1 : a < b
      · rw [if_pos q1, if_pos q1]
        by_cases h : e a b
        · rw [cif_pos h, cif_pos h]; simp [show ¬ b = a by omega, q0]
        · rw [cif_neg h, cif_neg h]; rfl
      · rw [if_neg q1, if_pos (show b < a by omega), if_neg q1, if_pos (show b < a by omega)]
        by_cases h : e b a
        · rw [cif_pos h, cif_pos h]; simp [show ¬ b = a by omega, q0]
        · rw [cif_neg h, cif_neg h]; rfl
theorem asm_C {e : Nat → Nat → Prop} {w : Nat → Nat → Int} {R a b : Nat} (ha : a < R) (hb : b ≤ R) : sm (R + 1) (fun p => sm (R + 1) (fun q => if p < q then kC e w R a b p q else 0)) = if b = R then bb e w (R + 1) a else La e (R + 1) a b := by
  rw [pair_row (X := fun q => cif (e a q) ((if b = a then 1 else 0) - (if b = q ∧ q < R then 1 else 0) + (if b = R then w a q else 0)) 0) (Y := fun p => cif (e p a) ((if b = a then 1 else 0) - (if b = p then 1 else 0) - (if b = R then w p a else 0)) 0) (show a < R + 1 by omega) (fun p q hpq hq => by
    unfold kC
    by_cases h : e p q
    · rw [cif_pos h]
      by_cases q1 : p = a
      · subst q1
        rw [if_pos rfl, if_neg (show ¬ q = p by omega), cif_pos h]
        by_cases q2 : q < R
        · simp [q2, show ¬ p = q by omega]
          by_cases q3 : b = p
          · subst q3; simp [show ¬ b = R by omega, show ¬ b = q by omega]
          · by_cases q4 : b = R
            · subst q4; simp [q3, show ¬ b = q by omega]
            · by_cases q5 : b = q
              · rw [q5]; simp [show ¬ q = p by omega, show ¬ q = R by omega]
              · simp [q3, q4, q5]
        · simp [q2]
      · by_cases q2 : q = a
        · subst q2
          rw [if_neg q1, if_pos rfl, cif_pos h]
          simp [ha, show ¬ q = p by omega]
        · rw [if_neg q1, if_neg q2]
          simp [show ¬ a = p by omega, show ¬ a = q by omega]
    · rw [cif_neg h]
      by_cases q1 : p = a
      · subst q1
        rw [if_pos rfl, if_neg (show ¬ q = p by omega), cif_neg h]; rfl
      · rw [if_neg q1]
        by_cases q2 : q = a
        · subst q2
          rw [if_pos rfl, cif_neg h]; rfl
        · rw [if_neg q2]; rfl)]
  by_cases q0 : b = R
  · rw [if_pos q0]
    subst q0
    unfold bb
    apply sm_congr
    intro k hk
    unfold ws
    by_cases q1 : a < k
    · rw [if_pos q1, if_pos q1]
      congr 1
      simp [show ¬ b = a by omega]
      omega
    · rw [if_neg q1, if_neg q1]
      by_cases q2 : k < a
      · rw [if_pos q2, if_pos q2]
        by_cases h : e k a
        · rw [cif_pos h, cif_pos h]
          simp [show ¬ b = a by omega, show ¬ b = k by omega]
        · rw [cif_neg h, cif_neg h]; rfl
      · rw [if_neg q2, if_neg q2]
  · rw [if_neg q0]
    unfold La
    by_cases q1 : a = b
    · subst q1
      rw [if_pos rfl, if_pos rfl]
      apply sm_congr
      intro k hk
      unfold es
      by_cases q1 : a < k
      · rw [if_pos q1, if_pos q1]
        congr 1
        simp [show ¬ a = k by omega, q0]
      · rw [if_neg q1, if_neg q1]
        by_cases q2 : k < a
        · rw [if_pos q2, if_pos q2]
          congr 1
          simp [show ¬ a = k by omega, q0]
        · rw [if_neg q2, if_neg q2]
    · rw [if_neg q1]
      rw [sm_one (k := b) (show b < R + 1 by omega) (fun k hk q => by
        by_cases q1 : a < k
        · rw [if_pos q1]
          by_cases h : e a k
          · rw [cif_pos h]; simp [show ¬ b = a by omega, show ¬ b = k by omega, q0]
          · rw [cif_neg h]
        · rw [if_neg q1]
          by_cases q2 : k < a
          · rw [if_pos q2]
            by_cases h : e k a
            · rw [cif_pos h]; simp [show ¬ b = a by omega, show ¬ b = k by omega, q0]
            · rw [cif_neg h]
          · rw [if_neg q2])]
      unfold es
      by_cases q1 : a < b
      · rw [if_pos q1, if_pos q1]
        by_cases h : e a b
        · rw [cif_pos h, cif_pos h]; simp [show ¬ b = a by omega, q0, show b < R by omega]
        · rw [cif_neg h, cif_neg h]; rfl
      · rw [if_neg q1, if_pos (show b < a by omega), if_neg q1, if_pos (show b < a by omega)]
        by_cases h : e b a
        · rw [cif_pos h, cif_pos h]; simp [show ¬ b = a by omega, q0]
        · rw [cif_neg h, cif_neg h]; rfl
/-- what solves the first system solves every one on the way -/
theorem persist {n : Nat} {A : Nat → Nat → Int} (hA : MM n A) {x b : Nat → Int} {t : Int} (h : ∀ r, r < n → sm n (fun c => A r c * x c) = t * b r) : ∀ k, k ≤ n → ∀ r, r < n → sm n (fun c => Ss k A r (col A c) * x c) = t * Ss k A r b
  | 0, _, r, hr => by
    rw [Ss_zero, ← h r hr]
    exact sm_congr (fun c _ => by rw [Ss_zero])
  | k + 1, hk, r, hr => by
    have p0 := D_pos hA (show k ≤ n by omega)
    have p1 := D_pos hA hk
    apply Int.eq_of_mul_eq_mul_left (show dt k A ≠ 0 by omega)
    have e1 : dt k A * sm n (fun c => Ss (k + 1) A r (col A c) * x c) = dt (k + 1) A * sm n (fun c => Ss k A r (col A c) * x c) - Ss k A r (col A k) * sm n (fun c => Ss k A k (col A c) * x c) := by
      rw [← sm_mul, ← sm_mul, ← sm_mul, ← sm_sub]
      apply sm_congr
      intro c hc
      have := rec_S hA.1 (show k < n by omega) (by omega) (by omega) (col A c) r
      generalize Ss (k + 1) A r (col A c) = s1 at *
      generalize Ss k A r (col A c) = s2 at *
      generalize Ss k A k (col A c) = s3 at *
      generalize Ss k A r (col A k) = s4 at *
      generalize dt (k + 1) A = d1 at *
      generalize dt k A = d0 at *
      grind
    have e2 := rec_S hA.1 (show k < n by omega) (by omega) (by omega) b r
    rw [e1, persist hA h k (by omega) r hr, persist hA h k (by omega) k (by omega)]
    generalize Ss (k + 1) A r b = s1 at *
    generalize Ss k A r b = s2 at *
    generalize Ss k A k b = s3 at *
    generalize Ss k A r (col A k) = s4 at *
    generalize dt (k + 1) A = d1 at *
    generalize dt k A = d0 at *
    grind
/-- the model's system from below: row r of what is left, at column k (0: the right side) -/
noncomputable def mR (e : Nat → Nat → Prop) (w : Nat → Nat → Int) (n r k : Nat) : Int := Ss (r - 1) (Ao e n 1) (r - 1) (if k = 0 then bo e w n 1 else col (Ao e n 1) (k - 1))
theorem mR_back {e : Nat → Nat → Prop} {w : Nat → Nat → Int} {n r : Nat} (hc : Cn e (n + 1)) (hn : n ≤ 7) (hw : ∀ a b, a < b → b < n + 1 → e a b → -200000 ≤ w a b ∧ w a b ≤ 200000) (h1 : 1 ≤ r) (hr : r < n + 1) : mR e w n r 0 * Do e n 1 - sm (n + 1) (fun k => if r < k then mR e w n r k * Xo e w n 1 k else 0) = mR e w n r r * Xo e w n 1 r ∧ i64 (mR e w n r r * Xo e w n 1 r) ∧ i64 (mR e w n r r) ∧ mR e w n r r ≠ 0 := by
  have hA : MM n (Ao e n 1) := La_MM hc hn (by omega)
  have hb : ∀ q, q < n → -1400000 ≤ bo e w n 1 q ∧ bo e w n 1 q ≤ 1400000 := fun q hq => bb_bd (by omega) hw (by omega)
  obtain ⟨i, rfl⟩ : ∃ i, r = i + 1 := ⟨r - 1, by omega⟩
  have hi : i < n := by omega
  have hp := persist hA (x := Gs n (Ao e n 1) (bo e w n 1)) (b := bo e w n 1) (t := dt n (Ao e n 1)) (fun q hq => cramer _ _ hq) i (by omega) i hi
  have p0 := D_pos hA (show i ≤ n by omega)
  have p1 := D_pos hA (show i + 1 ≤ n by omega)
  have p2 := D_le hA (i + 1) (by omega)
  have p3 := p7' (show i + 1 ≤ 7 by omega)
  have g0 := Gb_bd hA hn hb n (Nat.le_refl n) i hi
  have g1 := g7 hn
  have erow : ∀ k, mR e w n (i + 1) (k + 1) = Ss i (Ao e n 1) i (col (Ao e n 1) k) := fun k => by unfold mR; rw [if_neg (by omega)]; rfl
  have e0 : mR e w n (i + 1) 0 = Ss i (Ao e n 1) i (bo e w n 1) := by unfold mR; rw [if_pos rfl]; rfl
  have ed : mR e w n (i + 1) (i + 1) = dt (i + 1) (Ao e n 1) := by rw [erow, Ss_piv]
  have ex : Xo e w n 1 (i + 1) = Gs n (Ao e n 1) (bo e w n 1) i := Xo_at (by omega) hi
  refine ⟨?_, ?_, ?_, ?_⟩
  · rw [e0, ex, erow, sm_head, if_neg (by omega), Int.zero_add]
    have e2 : sm n (fun c => Ss i (Ao e n 1) i (col (Ao e n 1) c) * Gs n (Ao e n 1) (bo e w n 1) c) = sm n (fun c => if c = i then Ss i (Ao e n 1) i (col (Ao e n 1) i) * Gs n (Ao e n 1) (bo e w n 1) i else 0) + sm n (fun c => if i + 1 < c + 1 then mR e w n (i + 1) (c + 1) * Xo e w n 1 (c + 1) else 0) := by
      rw [← sm_add]
      apply sm_congr
      intro c hc2
      rcases Nat.lt_trichotomy c i with q | q | q
      · rw [if_neg (by omega), if_neg (by omega), Ss_unit hA.1 (show i ≤ n by omega) (by omega) q, Int.zero_mul]; rfl
      · subst q
        rw [if_pos rfl, if_neg (by omega)]; omega
      · rw [if_neg (by omega), if_pos (by omega), erow, Xo_at (by omega) hc2]; omega
    rw [e2, sm_one (f := fun c => if c = i then Ss i (Ao e n 1) i (col (Ao e n 1) i) * Gs n (Ao e n 1) (bo e w n 1) i else 0) (k := i) hi (fun j _ q => if_neg q), if_pos rfl] at hp
    have e3 : Ss i (Ao e n 1) i (bo e w n 1) * Do e n 1 = dt n (Ao e n 1) * Ss i (Ao e n 1) i (bo e w n 1) := Int.mul_comm _ _
    rw [e3]
    omega
  · rw [ed, ex]
    have := mbz (x := dt (i + 1) (Ao e n 1)) (z := Gs n (Ao e n 1) (bo e w n 1) i) (a := 823543) (b := 8070721400000) (by omega) (by omega)
    omega
  · rw [ed]; omega
  · rw [ed]; omega
