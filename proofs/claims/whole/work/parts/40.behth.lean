theorem fl_eq {a b a' b' : Int} (hb : 0 < b) (hb' : 0 < b') (h : a * b' = a' * b) : a / b = a' / b' := by
  have e1 : a / b = (a * b') / (b * b') := (Int.mul_ediv_mul_of_pos_left a b hb').symm
  have e2 : a' / b' = (a' * b) / (b' * b) := (Int.mul_ediv_mul_of_pos_left a' b' hb).symm
  rw [e1, e2, h, Int.mul_comm b b']
/-- a fraction and its lowest terms -/
theorem red_eq {a b : Int} (hb : 0 < b) : ∃ g : Int, 0 < g ∧ (Int.gcd a b : Int) = g ∧ a = g * a.tdiv g ∧ b = g * b.tdiv g := by
  have hg : 0 < Int.gcd a b := Int.gcd_pos_of_ne_zero_right a (by omega)
  refine ⟨(Int.gcd a b : Int), by omega, rfl, ?_, ?_⟩
  · exact (Int.mul_tdiv_cancel' (Int.gcd_dvd_left a b)).symm
  · exact (Int.mul_tdiv_cancel' (Int.gcd_dvd_right a b)).symm
theorem step_rel {sA sB A B D0 D1 c0 c1 : Int} (h : sA * B = A * sB) (hs : D1 * c0 = D0 * c1) : (sA * D1 + c1 * sB) * (B * D0) = (A * D0 + c0 * B) * (sB * D1) := by grind
def lS (c : Nat → Nat) (T t : Nat) : Int := sm t (fun g => ((ml c g T).length : Int))
theorem lS_all {e : Nat → Nat → Prop} {T : Nat} {c : Nat → Nat} (hc : Lab e T c) : lS c T T = T := by
  unfold lS
  rw [sm_congr (g := fun g => sm T (fun q => if c q = g then 1 else 0)) (fun g _ => ml_cnt c g T), sm_comm]
  have e1 := sm_congr (n := T) (f := fun q => sm T (fun g => if c q = g then (1 : Int) else 0)) (g := fun _ => 1) (fun q hq => by
    have hq2 := hc.2.1 q hq
    rw [sm_one (k := c q) (by omega) (fun g _ hg => if_neg (fun z => hg z.symm)), if_pos rfl])
  rw [e1, sm_const]; omega
theorem lS_le {e : Nat → Nat → Prop} {T : Nat} {c : Nat → Nat} (hc : Lab e T c) {t : Nat} (ht : t ≤ T) : 0 ≤ lS c T t ∧ lS c T t ≤ T := by
  refine ⟨sm_nonneg (fun i _ => by omega), ?_⟩
  rw [← lS_all hc]
  have key : ∀ k, lS c T t ≤ lS c T (t + k) := by
    intro k
    induction k with
    | zero => exact Int.le_refl _
    | succ k ih =>
      have e1 : lS c T (t + (k + 1)) = lS c T (t + k) + ((ml c (t + k) T).length : Int) := rfl
      rw [e1]; omega
  have := key (T - t)
  rw [show t + (T - t) = T by omega] at this
  exact this
def eS (c : Nat → Nat) (T : Nat) : Nat → Nat
  | 0 => 0
  | g + 1 => eS c T g + (if c g = g then nN c g T else 0)
theorem eS_le {e : Nat → Nat → Prop} {T : Nat} {c : Nat → Nat} (hc : Lab e T c) : ∀ t, t ≤ T → (eS c T t : Int) + (if 0 < t then 1 else 0) ≤ lS c T t
  | 0, _ => by show (0 : Int) + (if 0 < 0 then 1 else 0) ≤ 0; rw [if_neg (by omega)]; omega
  | t + 1, ht => by
    have ih := eS_le hc t (by omega)
    have e1 : lS c T (t + 1) = lS c T t + ((ml c t T).length : Int) := rfl
    have e2 : eS c T (t + 1) = eS c T t + (if c t = t then nN c t T else 0) := rfl
    rw [e1, e2, if_pos (show 0 < t + 1 by omega)]
    by_cases h : c t = t
    · have hz := (me_zero hc (show t < T by omega) h).1
      rw [if_pos h]
      have : nN c t T + 1 = (ml c t T).length := by unfold nN; omega
      by_cases h0 : 0 < t
      · rw [if_pos h0] at ih; omega
      · rw [if_neg h0] at ih; omega
    · rw [if_neg h]
      have h0 : 0 < t := by
        rcases Nat.eq_zero_or_pos t with q | q
        · subst q; have := hc.2.1 0 (by omega); omega
        · exact q
      rw [if_pos h0] at ih
      omega
theorem eS_7 {e : Nat → Nat → Prop} {T : Nat} {c : Nat → Nat} (hc : Lab e T c) (h8 : T ≤ 8) {t : Nat} (ht : t ≤ T) : eS c T t ≤ 7 := by
  have h1 := eS_le hc t ht
  have h2 := lS_le hc ht
  rcases Nat.eq_zero_or_pos t with q | q
  · subst q; show 0 ≤ 7; omega
  · rw [if_pos q] at h1; omega
theorem sq_bd {x : Int} (h : -200000 ≤ x ∧ x ≤ 200000) : 0 ≤ x * x ∧ x * x ≤ 40000000000 := ⟨sq_nonneg x, (mbz (a := 200000) (b := 200000) h h).2⟩
theorem sm_ub {f : Nat → Int} {d : Int} {n : Nat} (h : ∀ i, i < n → f i ≤ d) : sm n f ≤ n * d := by rw [← sm_const d n]; exact sm_le h
theorem sqS_bd {M0 : Mem} {T : Nat} {c : Nat → Nat} (hG : GT M0 T) {g : Nat} (hl : 0 < (ml c g T).length) : sqS (eN M0 c g T) (wN M0 c g T) (nN c g T + 1) ≤ 320000000000 * ((ml c g T).length : Int) := by
  have h8 := hG.1
  have e1 : nN c g T + 1 = (ml c g T).length := by unfold nN; omega
  have hml := ml_len c g T
  rw [e1]
  unfold sqS
  have h1 : ∀ p, p < (ml c g T).length → sm (ml c g T).length (fun q => if p < q then cif (eN M0 c g T p q) (wN M0 c g T p q * wN M0 c g T p q) 0 else 0) ≤ 320000000000 := by
    intro p hp
    have := sm_ub (n := (ml c g T).length) (d := 40000000000) (f := fun q => if p < q then cif (eN M0 c g T p q) (wN M0 c g T p q * wN M0 c g T p q) 0 else 0) (fun q hq => by
      by_cases z : p < q
      · rw [if_pos z]
        by_cases he : eN M0 c g T p q
        · rw [cif_pos he]; exact (sq_bd (wN_bd hG p q z hq he)).2
        · rw [cif_neg he]; omega
      · rw [if_neg z]; omega)
    have h2 : ((ml c g T).length : Int) * 40000000000 ≤ 320000000000 := by omega
    omega
  have := sm_ub h1
  omega
theorem kB_bd {M0 : Mem} {T : Nat} {c : Nat → Nat} (hG : GT M0 T) (hc : Lab (eD M0) T c) : ∀ t, t ≤ T → 0 < kB M0 c T t ∧ kB M0 c T t ≤ 7 ^ eS c T t
  | 0, _ => ⟨by show (0 : Int) < 1; omega, by show (1 : Int) ≤ 7 ^ 0; omega⟩
  | t + 1, ht => by
    have ih := kB_bd hG hc t (by omega)
    have e1 : kB M0 c T (t + 1) = if c t = t then kB M0 c T t * dN M0 c t T 0 else kB M0 c T t := rfl
    have e2 : eS c T (t + 1) = eS c T t + (if c t = t then nN c t T else 0) := rfl
    rw [e1, e2]
    by_cases h : c t = t
    · have hz := (me_zero hc (show t < T by omega) h).1
      have hb := xN_bd hG hc (g := t) hz (o := 0) (by omega)
      rw [if_pos h, if_pos h, Int.pow_add]
      refine ⟨Int.mul_pos ih.1 hb.2.1, ?_⟩
      exact Int.mul_le_mul ih.2 hb.2.2.1 (by have := hb.2.1; omega) (by have := pow_pos' 7 (by omega) (eS c T t); omega)
    · rw [if_neg h, if_neg h]; exact ih
theorem kB_le {M0 : Mem} {T : Nat} {c : Nat → Nat} (hG : GT M0 T) (hc : Lab (eD M0) T c) {t : Nat} (ht : t ≤ T) : 0 < kB M0 c T t ∧ kB M0 c T t ≤ 823543 := by
  have h1 := kB_bd hG hc t ht
  have h2 := p7' (eS_7 hc hG.1 ht)
  omega
theorem kA_bd {M0 : Mem} {T : Nat} {c : Nat → Nat} (hG : GT M0 T) (hc : Lab (eD M0) T c) : ∀ t, t ≤ T → 0 ≤ kA M0 c T t ∧ kA M0 c T t ≤ kB M0 c T t * (320000000000 * lS c T t)
  | 0, _ => ⟨by show (0 : Int) ≤ 0; omega, by show (0 : Int) ≤ 1 * (320000000000 * 0); omega⟩
  | t + 1, ht => by
    have ih := kA_bd hG hc t (by omega)
    have hB := (kB_bd hG hc t (by omega)).1
    have e1 : kB M0 c T (t + 1) = if c t = t then kB M0 c T t * dN M0 c t T 0 else kB M0 c T t := rfl
    have e2 : lS c T (t + 1) = lS c T t + ((ml c t T).length : Int) := rfl
    have e3 : kA M0 c T (t + 1) = if c t = t then kA M0 c T t * dN M0 c t T 0 + clS (eN M0 c t T) (wN M0 c t T) (nN c t T + 1) (xN M0 c t T 0) * kB M0 c T t else kA M0 c T t := rfl
    rw [e1, e2, e3]
    by_cases h : c t = t
    · have hz := (me_zero hc (show t < T by omega) h).1
      have hb := xN_bd hG hc (g := t) hz (o := 0) (by omega)
      have hcl := clS_bd hb.2.1 hb.2.2.2.2.2
      have hsq := sqS_bd (c := c) (g := t) hG hz
      rw [if_pos h, if_pos h]
      have hD := hb.2.1
      have u1 := Int.mul_le_mul_of_nonneg_right ih.2 (show (0 : Int) ≤ dN M0 c t T 0 by omega)
      have u2 := Int.mul_le_mul_of_nonneg_left hsq (show (0 : Int) ≤ dN M0 c t T 0 by omega)
      have u3 := Int.mul_le_mul_of_nonneg_right (Int.le_trans hcl.2 u2) (show (0 : Int) ≤ kB M0 c T t by omega)
      have u4 := Int.mul_nonneg ih.1 (show (0 : Int) ≤ dN M0 c t T 0 by omega)
      have u5 := Int.mul_nonneg hcl.1 (show (0 : Int) ≤ kB M0 c T t by omega)
      refine ⟨by omega, ?_⟩
      have e4 : kB M0 c T t * dN M0 c t T 0 * (320000000000 * (lS c T t + ((ml c t T).length : Int))) = kB M0 c T t * (320000000000 * lS c T t) * dN M0 c t T 0 + dN M0 c t T 0 * (320000000000 * ((ml c t T).length : Int)) * kB M0 c T t := by grind
      rw [e4]
      omega
    · have l0 := ml_notroot hc h
      rw [if_neg h, if_neg h, l0]
      exact ⟨ih.1, by have : lS c T t + ((0 : Nat) : Int) = lS c T t := by omega
                      rw [this]; exact ih.2⟩
theorem kA_le {M0 : Mem} {T : Nat} {c : Nat → Nat} (hG : GT M0 T) (hc : Lab (eD M0) T c) {t : Nat} (ht : t ≤ T) : 0 ≤ kA M0 c T t ∧ kA M0 c T t ≤ kB M0 c T t * 2560000000000 := by
  have h8 := hG.1
  have h1 := kA_bd hG hc t ht
  have h2 := lS_le hc ht
  have hB := (kB_bd hG hc t ht).1
  have u := Int.mul_le_mul_of_nonneg_left (show 320000000000 * lS c T t ≤ 2560000000000 by omega) (show (0 : Int) ≤ kB M0 c T t by omega)
  omega
theorem fBefore_bd {M0 : Mem} {T : Nat} (hG : GT M0 T) : 0 ≤ fBefore M0 T ∧ fBefore M0 T ≤ 2560000000000 := by
  have h8 := hG.1
  have hs : ∀ a b, a < T → b < T → 0 ≤ sqD M0 a b ∧ sqD M0 a b ≤ 40000000000 := by
    intro a b ha hb
    unfold sqD
    by_cases he : eD M0 a b
    · rw [cif_pos he]; exact sq_bd (wD_bd hG ha hb he)
    · rw [cif_neg he]; omega
  refine ⟨sm_nonneg (fun b hb => sm_nonneg (fun a ha => (hs a b (by omega) hb).1)), ?_⟩
  have h1 : ∀ b, b < T → sm b (fun a => sqD M0 a b) ≤ 320000000000 := by
    intro b hb
    have := sm_ub (n := b) (d := 40000000000) (f := fun a => sqD M0 a b) (fun a ha => (hs a b (by omega) hb).2)
    omega
  have := sm_ub h1
  unfold fBefore
  omega
noncomputable def fBehind (M0 : Mem) (c : Nat → Nat) (T : Nat) : Int := fBefore M0 T + (-(kA M0 c T T)) / kB M0 c T T
/-- what the model sums for one net -/
noncomputable def pN (M0 : Mem) (c : Nat → Nat) (X : Nat → Int) (n a b : Nat) : Int := if c a = n ∧ c b = n then cif (eD M0 a b) (wD M0 a b * (X a - X b)) 0 else 0
theorem pN_sum {M0 : Mem} {T : Nat} {c : Nat → Nat} {X : Nat → Int} {n : Nat} {x : Nat → Int} (hx : ∀ i, i < (ml c n T).length → X (me c n T i) = x i) : sm T (fun a => sm T (fun b => if a < b then pN M0 c X n a b else 0)) = clS (eN M0 c n T) (wN M0 c n T) (ml c n T).length x := by
  have e1 : ∀ a, a < T → sm T (fun b => if a < b then pN M0 c X n a b else 0) = if c a = n then sm (ml c n T).length (fun j => if a < me c n T j then cif (eD M0 a (me c n T j)) (wD M0 a (me c n T j) * (X a - X (me c n T j))) 0 else 0) else 0 := by
    intro a ha
    by_cases h : c a = n
    · rw [if_pos h, ← sum_me (fun b => if a < b then cif (eD M0 a b) (wD M0 a b * (X a - X b)) 0 else 0) c n T]
      refine sm_congr (fun b hb => ?_)
      unfold pN
      by_cases h1 : a < b
      · by_cases h2 : c b = n
        · rw [if_pos h1, if_pos ⟨h, h2⟩, if_pos h2, if_pos h1]
        · rw [if_pos h1, if_neg (fun q => h2 q.2), if_neg h2]
      · by_cases h2 : c b = n
        · rw [if_neg h1, if_pos h2, if_neg h1]
        · rw [if_neg h1, if_neg h2]
    · rw [if_neg h]
      exact sm_zero (fun b hb => by
        unfold pN
        by_cases h1 : a < b
        · rw [if_pos h1, if_neg (fun q => h q.1)]
        · rw [if_neg h1])
  rw [sm_congr e1, sum_me]
  unfold clS
  refine sm_congr (fun p hp => sm_congr (fun q hq => ?_))
  by_cases h : p < q
  · rw [if_pos h, if_pos (me_lt h hq), hx p hp, hx q hq]; rfl
  · rw [if_neg h, if_neg (fun z => by
      rcases Nat.lt_or_ge q p with h2 | h2
      · have := me_lt (c := c) (g := n) (T := T) h2 hp; omega
      · have : p = q := by omega
        subst this; omega)]
