/-! solutions, and that two of them tell the same -/
/-- the ground: the last member (o = 0) or the first (o = 1) -/
def gr (n o : Nat) : Nat := if o = 0 then n else 0
noncomputable def Ao (e : Nat → Nat → Prop) (n o : Nat) : Nat → Nat → Int := fun r c => La e (n + 1) (r + o) (c + o)
noncomputable def bo (e : Nat → Nat → Prop) (w : Nat → Nat → Int) (n o : Nat) : Nat → Int := fun r => bb e w (n + 1) (r + o)
noncomputable def Do (e : Nat → Nat → Prop) (n o : Nat) : Int := dt n (Ao e n o)
noncomputable def Xo (e : Nat → Nat → Prop) (w : Nat → Nat → Int) (n o : Nat) : Nat → Int := fun i => if i = gr n o then 0 else Gs n (Ao e n o) (bo e w n o) (i - o)
theorem gr_split (n o : Nat) (ho : o ≤ 1) (f : Nat → Int) : sm (n + 1) f = sm n (fun i => f (i + o)) + f (gr n o) := by
  unfold gr
  rcases (show o = 0 ∨ o = 1 by omega) with rfl | rfl
  · rw [if_pos rfl]; rfl
  · rw [if_neg (by omega), sm_head]; omega
theorem gr_ne {n o r : Nat} (ho : o ≤ 1) (hr : r < n) : r + o ≠ gr n o := by
  unfold gr
  rcases (show o = 0 ∨ o = 1 by omega) with rfl | rfl
  · rw [if_pos rfl]; omega
  · rw [if_neg (by omega)]; omega
theorem gr_lt (n o : Nat) : gr n o < n + 1 := by unfold gr; split <;> omega
theorem gr_cases {n o p : Nat} (ho : o ≤ 1) (hp : p < n + 1) : p = gr n o ∨ ∃ r, r < n ∧ p = r + o := by
  unfold gr
  rcases (show o = 0 ∨ o = 1 by omega) with rfl | rfl
  · rw [if_pos rfl]
    by_cases q : p = n
    · exact Or.inl q
    · exact Or.inr ⟨p, by omega, by omega⟩
  · rw [if_neg (by omega)]
    by_cases q : p = 0
    · exact Or.inl q
    · exact Or.inr ⟨p - 1, by omega, by omega⟩
theorem Xo_at {e : Nat → Nat → Prop} {w : Nat → Nat → Int} {n o r : Nat} (ho : o ≤ 1) (hr : r < n) : Xo e w n o (r + o) = Gs n (Ao e n o) (bo e w n o) r := by
  unfold Xo
  rw [if_neg (gr_ne ho hr), Nat.add_sub_cancel]
theorem Xo_gr (e : Nat → Nat → Prop) (w : Nat → Nat → Int) (n o : Nat) : Xo e w n o (gr n o) = 0 := by unfold Xo; rw [if_pos rfl]
/-- x solves the net's system over D -/
def Sol (e : Nat → Nat → Prop) (w : Nat → Nat → Int) (n : Nat) (D : Int) (x : Nat → Int) : Prop := ∀ p, p < n + 1 → sm (n + 1) (fun q => La e (n + 1) p q * x q) = D * bb e w (n + 1) p
theorem Xo_sol (e : Nat → Nat → Prop) (w : Nat → Nat → Int) {n o : Nat} (ho : o ≤ 1) : Sol e w n (Do e n o) (Xo e w n o) := by
  have hrow : ∀ r, r < n → sm (n + 1) (fun q => La e (n + 1) (r + o) q * Xo e w n o q) = Do e n o * bb e w (n + 1) (r + o) := by
    intro r hr
    rw [gr_split n o ho, Xo_gr, Int.mul_zero, Int.add_zero]
    rw [sm_congr (g := fun j => Ao e n o r j * Gs n (Ao e n o) (bo e w n o) j) (fun j hj => by rw [Xo_at ho hj]; rfl)]
    exact cramer (Ao e n o) (bo e w n o) hr
  intro p hp
  rcases gr_cases ho hp with rfl | ⟨r, hr, rfl⟩
  · have h1 : sm (n + 1) (fun p => sm (n + 1) (fun q => La e (n + 1) p q * Xo e w n o q)) = 0 := by
      rw [sm_comm]
      apply sm_zero
      intro q hq
      rw [sm_mulr, sm_congr (g := fun p => La e (n + 1) q p) (fun p _ => La_sym e (n + 1) p q), La_sum e (n + 1) hq, Int.zero_mul]
    have h2 := bb_sum e w (n + 1)
    rw [gr_split n o ho] at h1 h2
    rw [sm_congr (g := fun r => Do e n o * bb e w (n + 1) (r + o)) (fun r hr => hrow r hr), sm_mul] at h1
    have h3 : sm n (fun r => bb e w (n + 1) (r + o)) = -bb e w (n + 1) (gr n o) := by omega
    rw [h3, Int.mul_neg] at h1
    omega
  · exact hrow r hr
theorem sol_diff {e : Nat → Nat → Prop} {w : Nat → Nat → Int} {n : Nat} (hc : Cn e (n + 1)) {D D' : Int} {x x' : Nat → Int} (h : Sol e w n D x) (h' : Sol e w n D' x') {p q : Nat} (hp : p < n + 1) (hq : q < n + 1) : D' * (x p - x q) = D * (x' p - x' q) := by
  have hz : ∀ r, r < n + 1 → sm (n + 1) (fun j => La e (n + 1) r j * (D' * x j - D * x' j)) = 0 := by
    intro r hr
    have e1 : sm (n + 1) (fun j => La e (n + 1) r j * (D' * x j - D * x' j)) = D' * sm (n + 1) (fun j => La e (n + 1) r j * x j) - D * sm (n + 1) (fun j => La e (n + 1) r j * x' j) := by
      rw [← sm_mul, ← sm_mul, ← sm_sub]
      exact sm_congr (fun j _ => by grind)
    rw [e1, h r hr, h' r hr]
    grind
  have h1 := form_zero hc (x := fun j => D' * x j - D * x' j) (sm_zero (fun r hr => by rw [hz r hr, Int.mul_zero])) p q hp hq
  have h2 : D' * x p - D * x' p = D' * x q - D * x' q := h1
  rw [Int.mul_sub, Int.mul_sub]
  omega
/-- what closes, and the squares -/
noncomputable def clS (e : Nat → Nat → Prop) (w : Nat → Nat → Int) (n : Nat) (x : Nat → Int) : Int := sm n (fun p => sm n (fun q => if p < q then cif (e p q) (w p q * (x p - x q)) 0 else 0))
noncomputable def sqS (e : Nat → Nat → Prop) (w : Nat → Nat → Int) (n : Nat) : Int := sm n (fun p => sm n (fun q => if p < q then cif (e p q) (w p q * w p q) 0 else 0))
theorem clS_bb (e : Nat → Nat → Prop) (w : Nat → Nat → Int) (n : Nat) (x : Nat → Int) : clS e w n x = sm n (fun p => x p * bb e w n p) := by
  have e1 : sm n (fun p => x p * bb e w n p) = sm n (fun p => sm n (fun q => if p < q then cif (e p q) (w p q * x p) 0 else 0)) + sm n (fun p => sm n (fun q => if q < p then cif (e q p) (-(w q p * x p)) 0 else 0)) := by
    rw [← sm_add]
    apply sm_congr
    intro p hp
    unfold bb
    rw [← sm_mul, ← sm_add]
    apply sm_congr
    intro q hq
    unfold ws
    by_cases h1 : p < q
    · rw [if_pos h1, if_pos h1, if_neg (by omega)]
      by_cases h : e p q
      · rw [cif_pos h, cif_pos h, Int.mul_comm]; omega
      · rw [cif_neg h, cif_neg h, Int.mul_zero]; rfl
    · rw [if_neg h1, if_neg h1]
      by_cases h2 : q < p
      · rw [if_pos h2, if_pos h2]
        by_cases h : e q p
        · rw [cif_pos h, cif_pos h, Int.mul_neg, Int.mul_comm]; omega
        · rw [cif_neg h, cif_neg h]; simp
      · rw [if_neg h2, if_neg h2, Int.mul_zero]; rfl
  rw [e1, sm_comm (fun p q => if q < p then cif (e q p) (-(w q p * x p)) 0 else 0), ← sm_add]
  unfold clS
  apply sm_congr
  intro p hp
  rw [← sm_add]
  apply sm_congr
  intro q hq
  by_cases h1 : p < q
  · rw [if_pos h1, if_pos h1, if_pos h1]
    by_cases h : e p q
    · rw [cif_pos h, cif_pos h, cif_pos h, Int.mul_sub]; omega
    · rw [cif_neg h, cif_neg h, cif_neg h]; rfl
  · rw [if_neg h1, if_neg h1, if_neg h1]; rfl
theorem sm_sympairs (F : Nat → Nat → Int) (hs : ∀ p q, F p q = F q p) (h0 : ∀ p, F p p = 0) (n : Nat) : sm n (fun p => sm n (fun q => F p q)) = 2 * sm n (fun p => sm n (fun q => if p < q then F p q else 0)) := by
  have e1 : sm n (fun p => sm n (fun q => F p q)) = sm n (fun p => sm n (fun q => if p < q then F p q else 0)) + sm n (fun p => sm n (fun q => if q < p then F p q else 0)) := by
    rw [← sm_add]
    apply sm_congr
    intro p hp
    rw [← sm_add]
    apply sm_congr
    intro q hq
    by_cases h1 : p < q
    · rw [if_pos h1, if_neg (by omega)]; omega
    · by_cases h2 : q < p
      · rw [if_neg h1, if_pos h2]; omega
      · have e : p = q := by omega
        subst e
        rw [if_neg h1, h0]; rfl
  have e2 : sm n (fun p => sm n (fun q => if q < p then F p q else 0)) = sm n (fun p => sm n (fun q => if p < q then F p q else 0)) := by
    rw [sm_comm]
    exact sm_congr (fun p _ => sm_congr (fun q _ => by rw [hs q p]))
  rw [e1, e2]
  omega
theorem clS_bd {e : Nat → Nat → Prop} {w : Nat → Nat → Int} {n : Nat} {D : Int} {x : Nat → Int} (hD : 0 < D) (h : Sol e w n D x) : 0 ≤ clS e w (n + 1) x ∧ clS e w (n + 1) x ≤ D * sqS e w (n + 1) := by
  have hf : sm (n + 1) (fun p => x p * sm (n + 1) (fun q => La e (n + 1) p q * x q)) = D * clS e w (n + 1) x := by
    rw [clS_bb, ← sm_mul]
    apply sm_congr
    intro p hp
    rw [h p hp]
    grind
  have h1 := form_nonneg e (n + 1) x
  rw [hf] at h1
  refine ⟨dv_ge hD h1, ?_⟩
  have hq : sm (n + 1) (fun p => sm (n + 1) (fun q => if p < q then es e p q * ((x p - x q) * (x p - x q)) else 0)) = D * clS e w (n + 1) x := by
    have h2 := La_form e (n + 1) x
    rw [hf, sm_sympairs (fun p q => es e p q * ((x p - x q) * (x p - x q))) (fun p q => by show es e p q * ((x p - x q) * (x p - x q)) = es e q p * ((x q - x p) * (x q - x p)); rw [es_sym e q p]; generalize x p = a; generalize x q = b; generalize es e p q = s; grind) (fun p => by show es e p p * _ = 0; rw [es_self, Int.zero_mul])] at h2
    omega
  have h3 : 0 ≤ sm (n + 1) (fun p => sm (n + 1) (fun q => if p < q then cif (e p q) ((D * w p q - (x p - x q)) * (D * w p q - (x p - x q))) 0 else 0)) := by
    apply sm_nonneg
    intro p _
    apply sm_nonneg
    intro q _
    by_cases q1 : p < q
    · rw [if_pos q1]
      by_cases q2 : e p q
      · rw [cif_pos q2]; exact sq_nonneg _
      · rw [cif_neg q2]; exact Int.le_refl _
    · rw [if_neg q1]; exact Int.le_refl _
  have h4 : sm (n + 1) (fun p => sm (n + 1) (fun q => if p < q then cif (e p q) ((D * w p q - (x p - x q)) * (D * w p q - (x p - x q))) 0 else 0)) = D * D * sqS e w (n + 1) - 2 * D * clS e w (n + 1) x + sm (n + 1) (fun p => sm (n + 1) (fun q => if p < q then es e p q * ((x p - x q) * (x p - x q)) else 0)) := by
    unfold sqS clS
    rw [← sm_mul, ← sm_mul, ← sm_sub, ← sm_add]
    apply sm_congr
    intro p _
    rw [← sm_mul, ← sm_mul, ← sm_sub, ← sm_add]
    apply sm_congr
    intro q _
    by_cases q1 : p < q
    · rw [if_pos q1, if_pos q1, if_pos q1, if_pos q1]
      unfold es
      rw [if_pos q1]
      by_cases q2 : e p q
      · rw [cif_pos q2, cif_pos q2, cif_pos q2, cif_pos q2]
        generalize w p q = a; generalize x p = b; generalize x q = c
        grind
      · rw [cif_neg q2, cif_neg q2, cif_neg q2, cif_neg q2]; simp
    · rw [if_neg q1, if_neg q1, if_neg q1, if_neg q1]; simp
  rw [h4, hq] at h3
  have h5 := dv_ge (x := D * sqS e w (n + 1) - clS e w (n + 1) x) hD (by
    rw [Int.mul_sub, ← Int.mul_assoc]
    have e5 : 2 * D * clS e w (n + 1) x = D * clS e w (n + 1) x + D * clS e w (n + 1) x := by grind
    omega)
  omega
theorem clS_scale {e : Nat → Nat → Prop} {w : Nat → Nat → Int} {n : Nat} (hc : Cn e (n + 1)) {D D' : Int} {x x' : Nat → Int} (h : Sol e w n D x) (h' : Sol e w n D' x') : D' * clS e w (n + 1) x = D * clS e w (n + 1) x' := by
  unfold clS
  rw [← sm_mul, ← sm_mul]
  apply sm_congr
  intro p hp
  rw [← sm_mul, ← sm_mul]
  apply sm_congr
  intro q hq
  by_cases q1 : p < q
  · rw [if_pos q1, if_pos q1]
    by_cases q2 : e p q
    · rw [cif_pos q2, cif_pos q2]
      have := sol_diff hc h h' hp hq
      grind
    · rw [cif_neg q2, cif_neg q2]; simp
  · rw [if_neg q1, if_neg q1]; simp
/-- what a member is off by, over (n + 1) D -/
def offA (n : Nat) (x : Nat → Int) (m : Nat) : Int := ((n + 1 : Nat) : Int) * x m - sm (n + 1) x
theorem sm_const (c : Int) : ∀ n : Nat, sm n (fun _ => c) = n * c
  | 0 => by simp [sm]
  | n + 1 => by
    show sm n _ + c = ((n + 1 : Nat) : Int) * c
    rw [sm_const c n, Int.natCast_succ, Int.add_mul, Int.one_mul]
theorem off_scale {e : Nat → Nat → Prop} {w : Nat → Nat → Int} {n : Nat} (hc : Cn e (n + 1)) {D D' : Int} {x x' : Nat → Int} (h : Sol e w n D x) (h' : Sol e w n D' x') {m : Nat} (hm : m < n + 1) : D' * offA n x m = D * offA n x' m := by
  have e1 : ∀ y : Nat → Int, offA n y m = sm (n + 1) (fun k => y m - y k) := by
    intro y
    unfold offA
    rw [sm_sub, sm_const]
  rw [e1, e1, ← sm_mul, ← sm_mul]
  exact sm_congr (fun k hk => sol_diff hc h h' hm hk)
theorem frac_eq {a d a' d' : Int} (hd : 0 < d) (hd' : 0 < d') (h : a * d' = a' * d) : a.tdiv (Int.gcd a d : Int) = a'.tdiv (Int.gcd a' d' : Int) ∧ d.tdiv (Int.gcd a d : Int) = d'.tdiv (Int.gcd a' d' : Int) := by
  have hg : 0 < Int.gcd a d := Int.gcd_pos_of_ne_zero_right a (by omega)
  have hg' : 0 < Int.gcd a' d' := Int.gcd_pos_of_ne_zero_right a' (by omega)
  have c1 := Int.gcd_ediv_gcd_ediv_gcd hg
  have c2 := Int.gcd_ediv_gcd_ediv_gcd hg'
  have ea : a / (Int.gcd a d : Int) * (Int.gcd a d : Int) = a := Int.ediv_mul_cancel (Int.gcd_dvd_left a d)
  have ed : d / (Int.gcd a d : Int) * (Int.gcd a d : Int) = d := Int.ediv_mul_cancel (Int.gcd_dvd_right a d)
  have ea' : a' / (Int.gcd a' d' : Int) * (Int.gcd a' d' : Int) = a' := Int.ediv_mul_cancel (Int.gcd_dvd_left a' d')
  have ed' : d' / (Int.gcd a' d' : Int) * (Int.gcd a' d' : Int) = d' := Int.ediv_mul_cancel (Int.gcd_dvd_right a' d')
  rw [Int.tdiv_eq_ediv_of_dvd (Int.gcd_dvd_left a d), Int.tdiv_eq_ediv_of_dvd (Int.gcd_dvd_right a d), Int.tdiv_eq_ediv_of_dvd (Int.gcd_dvd_left a' d'), Int.tdiv_eq_ediv_of_dvd (Int.gcd_dvd_right a' d')]
  generalize Int.gcd a d = g at *
  generalize Int.gcd a' d' = g' at *
  generalize a / (g : Int) = al at *
  generalize d / (g : Int) = de at *
  generalize a' / (g' : Int) = al' at *
  generalize d' / (g' : Int) = de' at *
  have hgi : (0 : Int) < g := by omega
  have hgi' : (0 : Int) < g' := by omega
  have pde : 0 < de := by
    by_cases q : 0 < de
    · exact q
    · have := pn (show (0 : Int) ≤ g by omega) (show de ≤ 0 by omega)
      rw [Int.mul_comm] at this
      omega
  have pde' : 0 < de' := by
    by_cases q : 0 < de'
    · exact q
    · have := pn (show (0 : Int) ≤ g' by omega) (show de' ≤ 0 by omega)
      rw [Int.mul_comm] at this
      omega
  have hx : al * de' = al' * de := by
    have h1 : (g * g' : Int) * (al * de') = (g * g' : Int) * (al' * de) := by
      rw [← ea, ← ed, ← ea', ← ed'] at h
      grind
    exact Int.eq_of_mul_eq_mul_left (by have := Int.mul_pos hgi hgi'; omega) h1
  have hn : al.natAbs * de'.natAbs = al'.natAbs * de.natAbs := by rw [← Int.natAbs_mul, ← Int.natAbs_mul, hx]
  have k1 : Nat.Coprime de.natAbs al.natAbs := by rw [Nat.coprime_comm]; exact c1
  have k2 : Nat.Coprime de'.natAbs al'.natAbs := by rw [Nat.coprime_comm]; exact c2
  have d1 : de.natAbs ∣ de'.natAbs := Nat.Coprime.dvd_of_dvd_mul_left k1 (by rw [hn]; exact Nat.dvd_mul_left _ _)
  have d2 : de'.natAbs ∣ de.natAbs := Nat.Coprime.dvd_of_dvd_mul_left k2 (by rw [← hn]; exact Nat.dvd_mul_left _ _)
  have d3 := Nat.dvd_antisymm d1 d2
  have d4 : de = de' := by omega
  subst d4
  exact ⟨Int.eq_of_mul_eq_mul_right (show de ≠ 0 by omega) hx, rfl⟩
