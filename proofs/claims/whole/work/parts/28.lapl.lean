/-! the net's matrix: n members, edges e p q (p < q) with numbers w p q -/
noncomputable def es (e : Nat → Nat → Prop) (p q : Nat) : Int := if p < q then cif (e p q) 1 0 else if q < p then cif (e q p) 1 0 else 0
noncomputable def ws (e : Nat → Nat → Prop) (w : Nat → Nat → Int) (p q : Nat) : Int := if p < q then cif (e p q) (w p q) 0 else if q < p then -cif (e q p) (w q p) 0 else 0
noncomputable def La (e : Nat → Nat → Prop) (n p q : Nat) : Int := if p = q then sm n (fun k => es e p k) else -es e p q
noncomputable def bb (e : Nat → Nat → Prop) (w : Nat → Nat → Int) (n p : Nat) : Int := sm n (fun k => ws e w p k)
theorem cif01 (p : Prop) : cif p 1 0 = 0 ∨ cif p 1 0 = 1 := by
  by_cases h : p
  · exact Or.inr (cif_pos h)
  · exact Or.inl (cif_neg h)
theorem es_01 (e : Nat → Nat → Prop) (p q : Nat) : 0 ≤ es e p q ∧ es e p q ≤ 1 := by
  unfold es
  split
  · rcases cif01 (e p q) with h | h <;> omega
  · split
    · rcases cif01 (e q p) with h | h <;> omega
    · omega
theorem es_self (e : Nat → Nat → Prop) (p : Nat) : es e p p = 0 := by unfold es; rw [if_neg (by omega), if_neg (by omega)]
theorem es_sym (e : Nat → Nat → Prop) (p q : Nat) : es e p q = es e q p := by
  unfold es
  by_cases h1 : p < q
  · rw [if_pos h1, if_neg (by omega), if_pos h1]
  · by_cases h2 : q < p
    · rw [if_neg h1, if_pos h2, if_pos h2]
    · rw [if_neg h1, if_neg h2, if_neg h2, if_neg h1]
theorem ws_anti (e : Nat → Nat → Prop) (w : Nat → Nat → Int) (p q : Nat) : ws e w p q = -ws e w q p := by
  unfold ws
  by_cases h1 : p < q
  · rw [if_pos h1, if_neg (by omega), if_pos h1, Int.neg_neg]
  · by_cases h2 : q < p
    · rw [if_neg h1, if_pos h2, if_pos h2]
    · rw [if_neg h1, if_neg h2, if_neg h2, if_neg h1]; rfl
theorem La_sym (e : Nat → Nat → Prop) (n p q : Nat) : La e n p q = La e n q p := by
  unfold La
  by_cases h : p = q
  · rw [if_pos h, if_pos h.symm, h]
  · rw [if_neg h, if_neg (fun z => h z.symm), es_sym]
/-- a row of the matrix at x: the sum over all q of e p q (x p - x q) -/
theorem La_row (e : Nat → Nat → Prop) (n : Nat) {p : Nat} (hp : p < n) (x : Nat → Int) : sm n (fun q => La e n p q * x q) = sm n (fun q => es e p q * (x p - x q)) := by
  have e1 : sm n (fun q => La e n p q * x q) = sm n (fun q => if q = p then sm n (fun k => es e p k) * x p else 0) - sm n (fun q => es e p q * x q) := by
    rw [← sm_sub]
    apply sm_congr
    intro q hq
    unfold La
    by_cases h : p = q
    · subst h
      rw [if_pos rfl, if_pos rfl, es_self]; omega
    · rw [if_neg h, if_neg (fun z => h z.symm), Int.neg_mul]; omega
  rw [e1, sm_one (f := fun q => if q = p then sm n (fun k => es e p k) * x p else 0) (k := p) hp (fun i _ q => if_neg q), if_pos rfl, ← sm_mulr, ← sm_sub]
  exact sm_congr (fun q _ => (Int.mul_sub _ _ _).symm)
/-- twice the form: squares over all ordered pairs -/
theorem La_form (e : Nat → Nat → Prop) (n : Nat) (x : Nat → Int) : 2 * sm n (fun p => x p * sm n (fun q => La e n p q * x q)) = sm n (fun p => sm n (fun q => es e p q * ((x p - x q) * (x p - x q)))) := by
  have e1 : sm n (fun p => x p * sm n (fun q => La e n p q * x q)) = sm n (fun p => sm n (fun q => x p * (es e p q * (x p - x q)))) := by
    apply sm_congr
    intro p hp
    rw [La_row e n hp x, ← sm_mul]
  have e2 : sm n (fun p => sm n (fun q => x p * (es e p q * (x p - x q)))) = sm n (fun p => sm n (fun q => x q * (es e p q * (x q - x p)))) := by
    rw [sm_comm]
    apply sm_congr
    intro p hp
    apply sm_congr
    intro q hq
    rw [es_sym e q p]
  have e3 : sm n (fun p => sm n (fun q => es e p q * ((x p - x q) * (x p - x q)))) = sm n (fun p => sm n (fun q => x p * (es e p q * (x p - x q)))) + sm n (fun p => sm n (fun q => x q * (es e p q * (x q - x p)))) := by
    rw [← sm_add]
    apply sm_congr
    intro p hp
    rw [← sm_add]
    apply sm_congr
    intro q hq
    generalize es e p q = s
    generalize x p = a
    generalize x q = b
    grind
  rw [e1, e3, ← e2]
  omega
theorem sm_each {f : Nat → Int} : ∀ {n : Nat}, (∀ i, i < n → 0 ≤ f i) → sm n f = 0 → ∀ i, i < n → f i = 0
  | 0, _, _, i, hi => by omega
  | n + 1, h, hz, i, hi => by
    have h1 := sm_nonneg (f := f) (n := n) (fun i hi => h i (by omega))
    have h2 := h n (by omega)
    have h3 : sm n f + f n = 0 := hz
    by_cases q : i = n
    · subst q; omega
    · exact sm_each (n := n) (fun i hi => h i (by omega)) (by omega) i (by omega)
theorem sq_nonneg (a : Int) : 0 ≤ a * a := by
  rcases Int.le_total 0 a with h | h
  · exact Int.mul_nonneg h h
  · exact nn h h
theorem form_nonneg (e : Nat → Nat → Prop) (n : Nat) (x : Nat → Int) : 0 ≤ sm n (fun p => x p * sm n (fun q => La e n p q * x q)) := by
  have h1 := La_form e n x
  have h2 : 0 ≤ sm n (fun p => sm n (fun q => es e p q * ((x p - x q) * (x p - x q)))) := sm_nonneg (fun p _ => sm_nonneg (fun q _ => Int.mul_nonneg (es_01 e p q).1 (sq_nonneg _)))
  omega
/-- the net hangs together: what is alike along edges is alike everywhere -/
def Cn (e : Nat → Nat → Prop) (n : Nat) : Prop := ∀ f : Nat → Nat, EInv e n f → ∀ p q, p < n → q < n → f p = f q
theorem form_zero {e : Nat → Nat → Prop} {n : Nat} (hc : Cn e n) {x : Nat → Int} (h : sm n (fun p => x p * sm n (fun q => La e n p q * x q)) = 0) : ∀ p q, p < n → q < n → x p = x q := by
  have h1 := La_form e n x
  rw [h] at h1
  have hedge : ∀ a b, a < b → b < n → e a b → x a = x b := by
    intro a b hab hb he
    have h2 := sm_each (f := fun p => sm n (fun q => es e p q * ((x p - x q) * (x p - x q)))) (n := n) (fun p _ => sm_nonneg (fun q _ => Int.mul_nonneg (es_01 e p q).1 (sq_nonneg _))) (by omega) a (by omega)
    have h3 := sm_each (f := fun q => es e a q * ((x a - x q) * (x a - x q))) (n := n) (fun q _ => Int.mul_nonneg (es_01 e a q).1 (sq_nonneg _)) h2 b hb
    have h4 : es e a b = 1 := by unfold es; rw [if_pos hab, cif_pos he]
    have h5 : es e a b * ((x a - x b) * (x a - x b)) = 0 := h3
    rw [h4, Int.one_mul] at h5
    rcases Int.mul_eq_zero.mp h5 with q | q <;> omega
  intro p q hp hq
  have h6 := hc (fun i => if x i = x q then 1 else 0) (fun a b hab hb he => by
    show (if x a = x q then 1 else 0) = (if x b = x q then 1 else 0)
    rw [hedge a b hab hb he]) p q hp hq
  have h7 : (if x p = x q then 1 else 0) = (if x q = x q then 1 else 0) := h6
  rw [if_pos rfl] at h7
  by_cases z : x p = x q
  · exact z
  · rw [if_neg z] at h7; omega
/-- all row sums are 0, all right sides add to 0 -/
theorem La_sum (e : Nat → Nat → Prop) (n : Nat) {p : Nat} (hp : p < n) : sm n (fun q => La e n p q) = 0 := by
  have h := La_row e n hp (fun _ => 1)
  rw [show sm n (fun q => La e n p q * 1) = sm n (fun q => La e n p q) from sm_congr (fun q _ => Int.mul_one _)] at h
  rw [h]
  exact sm_zero (fun q _ => by show es e p q * (1 - 1) = 0; rw [Int.sub_self, Int.mul_zero])
theorem bb_sum (e : Nat → Nat → Prop) (w : Nat → Nat → Int) (n : Nat) : sm n (fun p => bb e w n p) = 0 := by
  have h3 : sm n (fun p => sm n (fun k => ws e w p k)) = sm n (fun p => sm n (fun k => -ws e w p k)) := (sm_comm (fun p k => ws e w p k) n n).trans (sm_congr (fun k _ => sm_congr (fun p _ => ws_anti e w p k)))
  have h4 : sm n (fun p => sm n (fun k => -ws e w p k)) = -sm n (fun p => sm n (fun k => ws e w p k)) := by
    rw [← sm_neg]
    exact sm_congr (fun p _ => sm_neg _ n)
  show sm n (fun p => sm n (fun k => ws e w p k)) = 0
  omega
theorem bb_bd {e : Nat → Nat → Prop} {w : Nat → Nat → Int} {n : Nat} (hn : n ≤ 8) (hw : ∀ a b, a < b → b < n → e a b → -200000 ≤ w a b ∧ w a b ≤ 200000) {p : Nat} (hp : p < n) : -1400000 ≤ bb e w n p ∧ bb e w n p ≤ 1400000 := by
  have hk : ∀ k, k < n → -200000 ≤ ws e w p k ∧ ws e w p k ≤ 200000 := by
    intro k hk
    unfold ws
    by_cases h1 : p < k
    · rw [if_pos h1]
      by_cases q : e p k
      · rw [cif_pos q]; exact hw p k h1 hk q
      · rw [cif_neg q]; omega
    · rw [if_neg h1]
      by_cases h2 : k < p
      · rw [if_pos h2]
        by_cases q : e k p
        · rw [cif_pos q]; have := hw k p h2 hp q; omega
        · rw [cif_neg q]; omega
      · rw [if_neg h2]; omega
  have h0 : ws e w p p = 0 := by unfold ws; rw [if_neg (by omega), if_neg (by omega)]
  have h1 : sm n (fun k => ws e w p k) = sm (n - 1) (fun k => ws e w p (sk p k)) := by
    obtain ⟨m, rfl⟩ : ∃ m, n = m + 1 := ⟨n - 1, by omega⟩
    rw [show m + 1 - 1 = m by omega, sm_skip (fun k => ws e w p k) (show p ≤ m by omega)]
    apply sm_congr
    intro k hk
    by_cases q : k = p
    · rw [if_pos q, q, h0]
    · rw [if_neg q]
  have h2 := sm_bd (f := fun k => ws e w p (sk p k)) (c := 200000) (n := n - 1) (fun k hk2 => hk _ (by have := sk_le (show p ≤ n - 1 by omega) hk2; omega))
  unfold bb
  rw [h1]
  omega
/-- the matrix without its row and column g, where g is the last (o = 0) or the first (o = 1) -/
theorem La_MM {e : Nat → Nat → Prop} {n o : Nat} (hc : Cn e (n + 1)) (hn : n ≤ 7) (ho : o ≤ 1) : MM n (fun r c => La e (n + 1) (r + o) (c + o)) := by
  -- the ground
  have hsplit : ∀ f : Nat → Int, sm (n + 1) f = sm n (fun i => f (i + o)) + f (if o = 0 then n else 0) := by
    intro f
    rcases (show o = 0 ∨ o = 1 by omega) with rfl | rfl
    · rw [if_pos rfl]; rfl
    · rw [if_neg (by omega), sm_head]; omega
  have hg : ∀ r, r < n → r + o ≠ (if o = 0 then n else 0) := by
    intro r hr
    rcases (show o = 0 ∨ o = 1 by omega) with rfl | rfl
    · rw [if_pos rfl]; omega
    · rw [if_neg (by omega)]; omega
  have hgn : (if o = 0 then n else 0) < n + 1 := by split <;> omega
  refine ⟨fun r c _ _ => La_sym e (n + 1) _ _, fun r c hr hc q => ?_, fun r hr => ?_, fun r hr => ?_, fun z hz => ?_⟩
  · show La e (n + 1) (r + o) (c + o) ≤ 0
    unfold La
    rw [if_neg (by omega)]
    have := es_01 e (r + o) (c + o)
    omega
  · have h1 := La_sum e (n + 1) (show r + o < n + 1 by omega)
    rw [hsplit] at h1
    have h2 : La e (n + 1) (r + o) (if o = 0 then n else 0) ≤ 0 := by
      unfold La
      rw [if_neg (hg r hr)]
      have := es_01 e (r + o) (if o = 0 then n else 0)
      omega
    show 0 ≤ sm n (fun c => La e (n + 1) (r + o) (c + o))
    omega
  · show La e (n + 1) (r + o) (r + o) ≤ 7
    unfold La
    rw [if_pos rfl]
    have h1 : sm (n + 1) (fun k => es e (r + o) k) = sm n (fun k => es e (r + o) (sk (r + o) k)) := by
      rw [sm_skip (fun k => es e (r + o) k) (show r + o ≤ n by omega)]
      apply sm_congr
      intro k hk
      by_cases q : k = r + o
      · rw [if_pos q, q, es_self]
      · rw [if_neg q]
    have h2 := sm_bd (f := fun k => es e (r + o) (sk (r + o) k)) (c := 1) (n := n) (fun k _ => by have := es_01 e (r + o) (sk (r + o) k); omega)
    rw [h1]
    omega
  · -- a vector on the rest, with 0 at the ground
    have hx : ∀ j, j < n → (fun i => if i = (if o = 0 then n else 0) then 0 else z (i - o)) (j + o) = z j := by
      intro j hj
      show (if j + o = _ then 0 else z (j + o - o)) = z j
      rw [if_neg (hg j hj), Nat.add_sub_cancel]
    have hx0 : (fun i => if i = (if o = 0 then n else 0) then 0 else z (i - o)) (if o = 0 then n else 0) = 0 := if_pos rfl
    have h1 : sm (n + 1) (fun p => (fun i => if i = (if o = 0 then n else 0) then 0 else z (i - o)) p * sm (n + 1) (fun q => La e (n + 1) p q * (fun i => if i = (if o = 0 then n else 0) then 0 else z (i - o)) q)) = 0 := by
      rw [hsplit, hx0, Int.zero_mul, Int.add_zero]
      rw [sm_congr (g := fun r => z r * sm n (fun j => La e (n + 1) (r + o) (j + o) * z j)) (fun r hr => by
        rw [hx r hr, hsplit, hx0, Int.mul_zero, Int.add_zero]
        rw [sm_congr (fun j hj => by rw [hx j hj])])]
      exact hz
    intro j hj
    have h2 := form_zero hc h1 (j + o) (if o = 0 then n else 0) (by omega) hgn
    exact (hx j hj).symm.trans (h2.trans hx0)
