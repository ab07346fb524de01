/-! the members of a net, rising -/
def ml (c : Nat → Nat) (g T : Nat) : List Nat := (List.range T).filter (fun t => decide (c t = g))
def me (c : Nat → Nat) (g T : Nat) (i : Nat) : Nat := (ml c g T).getD i 0
theorem ml_in {c : Nat → Nat} {g T t : Nat} : t ∈ ml c g T ↔ t < T ∧ c t = g := by
  unfold ml
  rw [List.mem_filter, List.mem_range, decide_eq_true_eq]
theorem ml_succ (c : Nat → Nat) (g T : Nat) : ml c g (T + 1) = ml c g T ++ (if c T = g then [T] else []) := by
  unfold ml
  rw [List.range_succ, List.filter_append]
  congr 1
  by_cases h : c T = g
  · rw [if_pos h]; simp [h]
  · rw [if_neg h]; simp [h]
theorem ml_len (c : Nat → Nat) (g : Nat) : ∀ T, (ml c g T).length ≤ T
  | 0 => by simp [ml]
  | T + 1 => by
    have := ml_len c g T
    rw [ml_succ]
    split <;> simp <;> omega
theorem me_get {c : Nat → Nat} {g T i : Nat} (h : i < (ml c g T).length) : me c g T i = (ml c g T)[i] := by
  unfold me
  rw [List.getD_eq_getElem?_getD, List.getElem?_eq_getElem h]
  rfl
theorem me_in {c : Nat → Nat} {g T i : Nat} (h : i < (ml c g T).length) : me c g T i < T ∧ c (me c g T i) = g := by
  rw [me_get h]
  exact ml_in.mp (List.getElem_mem h)
theorem me_lt {c : Nat → Nat} {g T i j : Nat} (hij : i < j) (hj : j < (ml c g T).length) : me c g T i < me c g T j := by
  rw [me_get (show i < _ by omega), me_get hj]
  have hp : (ml c g T).Pairwise (· < ·) := List.Pairwise.filter _ List.pairwise_lt_range
  exact List.pairwise_iff_getElem.mp hp i j (by omega) hj hij
theorem me_inj {c : Nat → Nat} {g T i j : Nat} (hi : i < (ml c g T).length) (hj : j < (ml c g T).length) (h : me c g T i = me c g T j) : i = j := by
  rcases Nat.lt_trichotomy i j with q | q | q
  · have := me_lt q hj; omega
  · exact q
  · have := me_lt q hi; omega
theorem me_ex {c : Nat → Nat} {g T t : Nat} (ht : t < T) (hc : c t = g) : ∃ i, i < (ml c g T).length ∧ me c g T i = t := by
  obtain ⟨i, hi, he⟩ := List.getElem_of_mem (ml_in.mpr ⟨ht, hc⟩)
  exact ⟨i, hi, by rw [me_get hi]; exact he⟩
theorem me_stable {c : Nat → Nat} {g T i : Nat} (h : i < (ml c g T).length) : me c g (T + 1) i = me c g T i := by
  rw [me_get h, me_get (by rw [ml_succ, List.length_append]; omega)]
  simp only [ml_succ]
  rw [List.getElem_append_left h]
theorem me_new {c : Nat → Nat} {g T : Nat} (h : c T = g) : (ml c g (T + 1)).length = (ml c g T).length + 1 ∧ me c g (T + 1) (ml c g T).length = T := by
  have e1 : ml c g (T + 1) = ml c g T ++ [T] := by rw [ml_succ, if_pos h]
  have e2 : (ml c g (T + 1)).length = (ml c g T).length + 1 := by rw [e1, List.length_append]; rfl
  refine ⟨e2, ?_⟩
  rw [me_get (by omega)]
  simp [e1]
theorem ml_skip {c : Nat → Nat} {g T : Nat} (h : ¬ c T = g) : ml c g (T + 1) = ml c g T := by rw [ml_succ, if_neg h, List.append_nil]
/-- how many there are, as a sum -/
theorem ml_cnt (c : Nat → Nat) (g : Nat) : ∀ T, ((ml c g T).length : Int) = sm T (fun t => if c t = g then 1 else 0)
  | 0 => rfl
  | T + 1 => by
    show _ = sm T _ + (if c T = g then 1 else 0)
    rw [← ml_cnt c g T]
    by_cases h : c T = g
    · rw [(me_new h).1, if_pos h]; omega
    · rw [ml_skip h, if_neg h]; omega
/-- the least member is the label itself -/
theorem me_zero {e : Nat → Nat → Prop} {T : Nat} {c : Nat → Nat} (h : Lab e T c) {g : Nat} (hg : g < T) (hcg : c g = g) : 0 < (ml c g T).length ∧ me c g T 0 = g := by
  obtain ⟨i, hi, he⟩ := me_ex hg hcg
  refine ⟨by omega, ?_⟩
  have h1 := me_in (show 0 < (ml c g T).length by omega)
  have h2 := h.2.1 _ h1.1
  rw [h1.2] at h2
  by_cases q : i = 0
  · rw [← q]; exact he
  · have := me_lt (show 0 < i by omega) hi
    omega
/-- the members hang together -/
theorem me_Cn {e : Nat → Nat → Prop} {T : Nat} {c : Nat → Nat} (h : Lab e T c) (g : Nat) : Cn (fun p q => e (me c g T p) (me c g T q)) (ml c g T).length := by
  intro f hf p q hp hq
  have hidx : ∀ t, ∃ i, (t < T → c t = g → i < (ml c g T).length ∧ me c g T i = t) := by
    intro t
    by_cases h1 : t < T ∧ c t = g
    · obtain ⟨i, hi, he⟩ := me_ex h1.1 h1.2
      exact ⟨i, fun _ _ => ⟨hi, he⟩⟩
    · exact ⟨0, fun a b => absurd ⟨a, b⟩ h1⟩
  obtain ⟨idx, hch⟩ : ∃ idx : Nat → Nat, ∀ t, t < T → c t = g → idx t < (ml c g T).length ∧ me c g T (idx t) = t := ⟨fun t => Classical.choose (hidx t), fun t => Classical.choose_spec (hidx t)⟩
  have hinv : EInv e T (fun t => if c t = g then f (idx t) + 1 else 0) := by
    intro a b hab hb he
    have hc := h.1 a b hab hb he
    show (if c a = g then f (idx a) + 1 else 0) = (if c b = g then f (idx b) + 1 else 0)
    by_cases q1 : c a = g
    · rw [if_pos q1, if_pos (by omega)]
      have s1 := hch a (by omega) q1
      have s2 := hch b hb (by omega)
      have hlt : idx a < idx b := by
        rcases Nat.lt_trichotomy (idx a) (idx b) with z | z | z
        · exact z
        · rw [z] at s1; omega
        · have := me_lt z s1.1; omega
      have := hf _ _ hlt s2.1 (by show e (me c g T _) (me c g T _); rw [s1.2, s2.2]; exact he)
      omega
    · rw [if_neg q1, if_neg (by omega)]
  have key : ∀ i, i < (ml c g T).length → (if c (me c g T i) = g then f (idx (me c g T i)) + 1 else 0) = f i + 1 := by
    intro i hi
    have h1 := me_in hi
    rw [if_pos h1.2]
    have s1 := hch (me c g T i) h1.1 h1.2
    rw [me_inj s1.1 hi s1.2]
  have hp1 := me_in hp
  have hq1 := me_in hq
  have k1 := h.2.2 _ hinv (me c g T p) hp1.1
  have k2 := h.2.2 _ hinv (me c g T q) hq1.1
  have k3 := key p hp
  have k4 := key q hq
  rw [hp1.2, if_pos rfl] at k1 k3
  rw [hq1.2, if_pos rfl] at k2 k4
  omega
