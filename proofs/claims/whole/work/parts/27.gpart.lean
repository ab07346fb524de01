/-! the upper part of the full elimination, and all entries' ranges -/
theorem Gs_unit {N k c : Nat} {A : Nat → Nat → Int} (hs : Sy N A) (hk : k ≤ N) (hD : dt k A ≠ 0) (hc : c < k) {j : Nat} (hj : j < k) : Gs k A (col A c) j = if j = c then dt k A else 0 :=
  inj_eq hs hk hD (x := Gs k A (col A c)) (z := fun j => if j = c then dt k A else 0) (fun r hr => by
    rw [cramer A (col A c) hr, sm_one (k := c) hc (fun i _ q => by rw [if_neg q, Int.mul_zero]), if_pos rfl, Int.mul_comm]) j hj
theorem Ss_unit {N k c r : Nat} {A : Nat → Nat → Int} (hs : Sy N A) (hk : k ≤ N) (hD : dt k A ≠ 0) (hc : c < k) : Ss k A r (col A c) = 0 := by
  unfold Ss
  rw [sm_congr (g := fun j => A r j * (if j = c then dt k A else 0)) (fun j hj => by rw [Gs_unit hs hk hD hc hj]), sm_one (k := c) hc (fun i _ q => by rw [if_neg q, Int.mul_zero]), if_pos rfl]
  show dt k A * A r c - A r c * dt k A = 0
  rw [Int.mul_comm]; omega
def GP (N : Nat) (A : Nat → Nat → Int) (k : Nat) : Prop := ∀ j, j < k → (∀ c, k ≤ c → c < N → Gs k A (col A c) j ≤ 0) ∧ 0 ≤ dt k A + sm N (fun c => if k ≤ c then Gs k A (col A c) j else 0)
theorem GP_all {N : Nat} {A : Nat → Nat → Int} (h : MM N A) : ∀ k, k ≤ N → GP N A k
  | 0, _ => fun j hj => by omega
  | k + 1, hk => by
    have ih := GP_all h k (by omega)
    have hk' : k < N := by omega
    obtain ⟨p0, p1, p2, p3, p4⟩ := PP_all h k (by omega)
    have hP := D_pos h hk
    have hpk := Ss_piv k A
    have hoff2 : ∀ c, k < c → c < N → Ss k A k (col A c) ≤ 0 := fun c h1 h2 => p2 k c (Nat.le_refl k) hk' (by omega) h2 (by omega)
    intro j hj
    by_cases q : j < k
    · have hrec : ∀ c, dt k A * Gs (k + 1) A (col A c) j = dt (k + 1) A * Gs k A (col A c) j - Gs k A (col A k) j * Ss k A k (col A c) := fun c => rec_G h.1 hk' (by omega) (col A c) q
      refine ⟨fun c hc1 hc => ?_, ?_⟩
      · apply dv_le p0
        rw [hrec c]
        have u1 := pn (show 0 ≤ dt (k + 1) A by omega) ((ih j q).1 c (by omega) hc)
        have u2 := nn ((ih j q).1 k (Nat.le_refl k) hk') (hoff2 c (by omega) hc)
        omega
      · apply dv_ge p0
        have e1 : dt k A * sm N (fun c => if k + 1 ≤ c then Gs (k + 1) A (col A c) j else 0) = sm N (fun c => dt (k + 1) A * (if k ≤ c then Gs k A (col A c) j else 0) - Gs k A (col A k) j * (if k ≤ c then Ss k A k (col A c) else 0)) := by
          rw [← sm_mul]
          apply sm_congr
          intro c hc
          by_cases q1 : k + 1 ≤ c
          · rw [if_pos q1, if_pos (by omega), if_pos (by omega), hrec c]
          · rw [if_neg q1, Int.mul_zero]
            by_cases q2 : k ≤ c
            · have e : c = k := by omega
              subst e
              rw [if_pos (Nat.le_refl c), if_pos (Nat.le_refl c), hpk, Int.mul_comm (Gs c A (col A c) j)]
              omega
            · rw [if_neg q2, if_neg q2, Int.mul_zero, Int.mul_zero]; rfl
        rw [Int.mul_add, e1, sm_sub, sm_mul, sm_mul]
        have u1 := Int.mul_nonneg (show 0 ≤ dt (k + 1) A by omega) (ih j q).2
        have u2 := pn (p3 k (Nat.le_refl k) hk') ((ih j q).1 k (Nat.le_refl k) hk')
        rw [Int.mul_comm] at u2
        rw [Int.mul_add, Int.mul_comm (dt (k + 1) A) (dt k A)] at u1
        omega
    · have e : j = k := by omega
      subst e
      have hK : ∀ c, Gs (j + 1) A (col A c) j = Ss j A j (col A c) := fun c => rec_K h.1 hk' (by omega) (by omega) (col A c)
      refine ⟨fun c hc1 hc => by rw [hK]; exact hoff2 c (by omega) hc, ?_⟩
      have h3 := p3 j (Nat.le_refl j) hk'
      have e1 : sm N (fun c => if j ≤ c then Ss j A j (col A c) else 0) = sm N (fun c => if c = j then dt (j + 1) A else 0) + sm N (fun c => if j + 1 ≤ c then Gs (j + 1) A (col A c) j else 0) := by
        rw [← sm_add]
        apply sm_congr
        intro c hc
        by_cases q1 : c = j
        · subst q1
          rw [if_pos (Nat.le_refl c), if_pos rfl, if_neg (by omega), hpk]; omega
        · rw [if_neg q1]
          by_cases q2 : j + 1 ≤ c
          · rw [if_pos (by omega), if_pos q2, hK]; omega
          · rw [if_neg (by omega), if_neg q2]; rfl
      rw [e1, sm_one (f := fun c => if c = j then dt (j + 1) A else 0) (k := j) hk' (fun i _ q => if_neg q), if_pos rfl] at h3
      exact h3
theorem G_bd {N : Nat} {A : Nat → Nat → Int} (h : MM N A) {k j c : Nat} (hk : k ≤ N) (hj : j < k) (hc : c < N) : -dt k A ≤ Gs k A (col A c) j ∧ Gs k A (col A c) j ≤ dt k A := by
  have p0 := D_pos h hk
  by_cases q : c < k
  · rw [Gs_unit h.1 hk (by omega) q hj]
    split <;> omega
  · have g := GP_all h k hk j hj
    have h1 := g.1 c (by omega) hc
    have h2 := sm_le_one (f := fun c => if k ≤ c then Gs k A (col A c) j else 0) hc (fun i hi _ => by
      show (if k ≤ i then Gs k A (col A i) j else 0) ≤ 0
      by_cases q2 : k ≤ i
      · rw [if_pos q2]; exact g.1 i q2 hi
      · rw [if_neg q2]; exact Int.le_refl _)
    rw [if_pos (by omega)] at h2
    have h3 := g.2
    omega
def gB : Nat → Int
  | 0 => 0
  | k + 1 => 7 * gB k + 7 ^ k * 9800000
theorem pow_pos' (a : Int) (ha : 0 < a) : ∀ k : Nat, 0 < a ^ k
  | 0 => by rw [Int.pow_zero]; omega
  | k + 1 => by rw [Int.pow_succ]; exact Int.mul_pos (pow_pos' a ha k) ha
theorem gB_nonneg : ∀ k, 0 ≤ gB k
  | 0 => Int.le_refl _
  | k + 1 => by
    have h1 := gB_nonneg k
    have h2 := pow_pos' 7 (by omega) k
    show 0 ≤ 7 * gB k + 7 ^ k * 9800000
    omega
theorem Gb_bd {N : Nat} {A : Nat → Nat → Int} (h : MM N A) (hN : N ≤ 7) {b : Nat → Int} (hb : ∀ r, r < N → -1400000 ≤ b r ∧ b r ≤ 1400000) : ∀ k, k ≤ N → ∀ j, j < k → -gB k ≤ Gs k A b j ∧ Gs k A b j ≤ gB k
  | 0, _, j, hj => by omega
  | k + 1, hk, j, hj => by
    have hk' : k < N := by omega
    have p0 := D_pos h (show k ≤ N by omega)
    have p1 := D_pos h hk
    have s1 := Sb_bd h hN hb (show k ≤ N by omega) (Nat.le_refl k) hk'
    have g0 := gB_nonneg k
    show -(7 * gB k + 7 ^ k * 9800000) ≤ _ ∧ _ ≤ 7 * gB k + 7 ^ k * 9800000
    by_cases q : j < k
    · have e1 := rec_G h.1 hk' (by omega) b q
      have u1 := Gb_bd h hN hb k (by omega) j q
      have u2 := G_bd h (show k ≤ N by omega) q hk'
      have d7 := (PP_all h k (by omega)).2.2.2.2 k (Nat.le_refl k) hk'
      rw [Ss_piv] at d7
      have v1 := mbz (x := dt (k + 1) A) (a := 7 * dt k A) (by omega) u1
      have v2 := mbz u2 s1
      apply dv_bd p0
      · rw [e1, Int.mul_add]
        have e2 : dt k A * (7 * gB k) = 7 * dt k A * gB k := by generalize dt k A = d; grind
        omega
      · rw [e1, Int.mul_add]
        have e2 : dt k A * (7 * gB k) = 7 * dt k A * gB k := by generalize dt k A = d; grind
        omega
    · have e : j = k := by omega
      subst e
      rw [rec_K h.1 hk' (by omega) (by omega) b]
      omega
/-- the matrix behind k steps of the full elimination -/
def Rk (A : Nat → Nat → Int) (k r : Nat) (v : Nat → Int) : Int := if r < k then Gs k A v r else Ss k A r v
theorem Rk_zero (A : Nat → Nat → Int) (r : Nat) (v : Nat → Int) : Rk A 0 r v = v r := by unfold Rk; rw [if_neg (by omega), Ss_zero]
theorem Rk_piv (A : Nat → Nat → Int) (k : Nat) : Rk A k k (col A k) = dt (k + 1) A := by unfold Rk; rw [if_neg (by omega), Ss_piv]
theorem Rk_same {N k : Nat} {A : Nat → Nat → Int} (h : MM N A) (hk : k < N) (v : Nat → Int) : Rk A (k + 1) k v = Rk A k k v := by
  have p0 := D_pos h (show k ≤ N by omega)
  have p1 := D_pos h (show k + 1 ≤ N by omega)
  unfold Rk
  rw [if_pos (by omega), if_neg (by omega), rec_K h.1 hk (by omega) (by omega)]
theorem Rk_rec {N k r : Nat} {A : Nat → Nat → Int} (h : MM N A) (hk : k < N) (hr : r ≠ k) (v : Nat → Int) : dt k A * Rk A (k + 1) r v = Rk A k k (col A k) * Rk A k r v - Rk A k r (col A k) * Rk A k k v := by
  have p0 := D_pos h (show k ≤ N by omega)
  have p1 := D_pos h (show k + 1 ≤ N by omega)
  rw [Rk_piv]
  unfold Rk
  rw [if_neg (show ¬ k < k by omega)]
  by_cases q : r < k
  · rw [if_pos q, if_pos q, if_pos (show r < k + 1 by omega), rec_G h.1 hk (by omega) v q]
  · rw [if_neg q, if_neg q, if_neg (show ¬ r < k + 1 by omega), rec_S h.1 hk (by omega) (by omega) v r]
theorem p7 {k : Nat} (hk : k ≤ 6) : (7 : Int) ^ k ≤ 117649 := by
  rcases (show k = 0 ∨ k = 1 ∨ k = 2 ∨ k = 3 ∨ k = 4 ∨ k = 5 ∨ k = 6 by omega) with rfl | rfl | rfl | rfl | rfl | rfl | rfl <;> decide
theorem p7' {k : Nat} (hk : k ≤ 7) : (7 : Int) ^ k ≤ 823543 := by
  by_cases q : k = 7
  · subst q; decide
  · have := p7 (show k ≤ 6 by omega); omega
theorem g7 {k : Nat} (hk : k ≤ 7) : gB k ≤ 8070721400000 := by
  rcases (show k = 0 ∨ k = 1 ∨ k = 2 ∨ k = 3 ∨ k = 4 ∨ k = 5 ∨ k = 6 ∨ k = 7 by omega) with rfl | rfl | rfl | rfl | rfl | rfl | rfl | rfl <;> decide
/-- a column of the matrix, or the right side -/
def cv (A : Nat → Nat → Int) (b : Nat → Int) (N c : Nat) : Nat → Int := if c < N then col A c else b
theorem Rk_bd {N : Nat} {A : Nat → Nat → Int} (h : MM N A) (hN : N ≤ 7) {b : Nat → Int} (hb : ∀ r, r < N → -1400000 ≤ b r ∧ b r ≤ 1400000) {k r : Nat} (hk : k ≤ N) (hr : r < N) (c : Nat) : -8070721400000 ≤ Rk A k r (cv A b N c) ∧ Rk A k r (cv A b N c) ≤ 8070721400000 := by
  have p0 := D_pos h hk
  have p1 := D_le h k hk
  have p2 := p7' (show k ≤ 7 by omega)
  unfold Rk cv
  by_cases q : r < k
  · rw [if_pos q]
    by_cases q2 : c < N
    · rw [if_pos q2]
      have := G_bd h hk q q2
      omega
    · rw [if_neg q2]
      have u1 := Gb_bd h hN hb k hk r q
      have u2 := g7 (show k ≤ 7 by omega)
      omega
  · rw [if_neg q]
    by_cases q2 : c < N
    · rw [if_pos q2]
      by_cases q3 : c < k
      · rw [Ss_unit h.1 hk (by omega) q3]; omega
      · have u1 := S_bd h (show k ≤ r by omega) hr (show k ≤ c by omega) q2
        have u2 := (PP_all h k hk).2.2.2.2 r (by omega) hr
        omega
    · rw [if_neg q2]
      have u1 := Sb_bd h hN hb hk (show k ≤ r by omega) hr
      have u2 := p7 (show k ≤ 6 by omega)
      omega
theorem Rk_num {N : Nat} {A : Nat → Nat → Int} (h : MM N A) (hN : N ≤ 7) {b : Nat → Int} (hb : ∀ r, r < N → -1400000 ≤ b r ∧ b r ≤ 1400000) {k r : Nat} (hk : k < N) (hr : r < N) (hne : r ≠ k) (c : Nat) : i64 (Rk A k k (col A k) * Rk A k r (cv A b N c) - Rk A k r (col A k) * Rk A k k (cv A b N c)) ∧ (Rk A k k (col A k) * Rk A k r (cv A b N c) - Rk A k r (col A k) * Rk A k k (cv A b N c)).tdiv (dt k A) = Rk A (k + 1) r (cv A b N c) := by
  have p0 := D_pos h (show k ≤ N by omega)
  have p1 := D_le h k (by omega)
  have p2 := p7 (show k ≤ 6 by omega)
  rw [← Rk_rec h hk hne]
  have u1 := Rk_bd h hN hb (show k + 1 ≤ N by omega) hr c
  have u2 := mbz (x := dt k A) (a := 117649) (by omega) u1
  exact ⟨by omega, Int.mul_tdiv_cancel_left _ (by omega)⟩
