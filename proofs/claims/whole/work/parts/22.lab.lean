/-! nets: the labelling of tracks by the least of those joined with them -/
def EInv (e : Nat → Nat → Prop) (T : Nat) (f : Nat → Nat) : Prop := ∀ a b, a < b → b < T → e a b → f a = f b
def Lab (e : Nat → Nat → Prop) (T : Nat) (c : Nat → Nat) : Prop := EInv e T c ∧ (∀ t, t < T → c t ≤ t) ∧ ∀ f, EInv e T f → ∀ t, t < T → f t = f (c t)
theorem lab_idem {e : Nat → Nat → Prop} {T : Nat} {c : Nat → Nat} (h : Lab e T c) {t : Nat} (ht : t < T) : c (c t) = c t := (h.2.2 c h.1 t ht).symm
theorem lab_unique {e : Nat → Nat → Prop} {T : Nat} {c c' : Nat → Nat} (h : Lab e T c) (h' : Lab e T c') {t : Nat} (ht : t < T) : c t = c' t := by
  have h1 := h.2.2 c' h'.1 t ht
  have h2 := h'.2.2 c h.1 t ht
  have h3 := h'.2.1 (c t) (Nat.lt_of_le_of_lt (h.2.1 t ht) ht)
  have h4 := h.2.1 (c' t) (Nat.lt_of_le_of_lt (h'.2.1 t ht) ht)
  omega
/-- two labels made one -/
def rel (f : Nat → Nat) (x z : Nat) : Nat → Nat := fun t => if f t = max x z then min x z else f t
/-- a labelling of the pairs that q says -/
def LabQ (e : Nat → Nat → Prop) (T : Nat) (q : Nat → Nat → Prop) (c : Nat → Nat) : Prop := Lab (fun a b => e a b ∧ q a b) T c
theorem lab_rel {e : Nat → Nat → Prop} {T : Nat} {q : Nat → Nat → Prop} {c : Nat → Nat} {a b : Nat} (h : LabQ e T q c) (hab : a < b) (hb : b < T) (he : e a b) : LabQ e T (fun x z => q x z ∨ (x = a ∧ z = b)) (rel c (c a) (c b)) := by
  refine ⟨?_, ?_, ?_⟩
  · intro x z hxz hz ⟨h1, h2⟩
    rcases h2 with h2 | ⟨rfl, rfl⟩
    · have := h.1 x z hxz hz ⟨h1, h2⟩
      unfold rel
      rw [this]
    · unfold rel
      rcases Nat.le_total (c x) (c z) with q1 | q1
      · rw [Nat.max_eq_right q1, Nat.min_eq_left q1, if_pos rfl]
        split
        · rfl
        · rfl
      · rw [Nat.max_eq_left q1, Nat.min_eq_right q1, if_pos rfl]
        split
        · rfl
        · rfl
  · intro t ht
    have := h.2.1 t ht
    unfold rel
    split <;> omega
  · intro f hf t ht
    have hf1 : EInv (fun a b => e a b ∧ q a b) T f := fun x z h1 h2 h3 => hf x z h1 h2 ⟨h3.1, Or.inl h3.2⟩
    have e1 := h.2.2 f hf1 t ht
    have e2 := h.2.2 f hf1 a (by omega)
    have e3 := h.2.2 f hf1 b hb
    have e4 := hf a b hab hb ⟨he, Or.inr ⟨rfl, rfl⟩⟩
    unfold rel
    split
    · rename_i q1
      rw [q1] at e1
      rcases Nat.le_total (c a) (c b) with q2 | q2
      · rw [Nat.max_eq_right q2] at e1; rw [Nat.min_eq_left q2]; omega
      · rw [Nat.max_eq_left q2] at e1; rw [Nat.min_eq_right q2]; omega
    · exact e1
theorem lab_congr {e : Nat → Nat → Prop} {T : Nat} {q q' : Nat → Nat → Prop} {c : Nat → Nat} (h : LabQ e T q c) (hq : ∀ x z, x < z → z < T → e x z → (q x z ↔ q' x z)) : LabQ e T q' c :=
  ⟨fun x z h1 h2 h3 => h.1 x z h1 h2 ⟨h3.1, (hq x z h1 h2 h3.1).mpr h3.2⟩, h.2.1, fun f hf => h.2.2 f (fun x z h1 h2 h3 => hf x z h1 h2 ⟨h3.1, (hq x z h1 h2 h3.1).mp h3.2⟩)⟩
theorem lab_id (e : Nat → Nat → Prop) (T : Nat) : LabQ e T (fun _ _ => False) (fun t => t) := ⟨fun x z h1 h2 h3 => h3.2.elim, fun t _ => Nat.le_refl t, fun f _ t _ => rfl⟩
theorem lab_done {e : Nat → Nat → Prop} {T : Nat} {q : Nat → Nat → Prop} {c : Nat → Nat} (h : LabQ e T q c) (hq : ∀ x z, x < z → z < T → q x z) : Lab e T c :=
  ⟨fun x z h1 h2 h3 => h.1 x z h1 h2 ⟨h3, hq x z h1 h2⟩, h.2.1, fun f hf => h.2.2 f (fun x z h1 h2 h3 => hf x z h1 h2 h3.1)⟩
theorem lab_exists (e : Nat → Nat → Prop) (T : Nat) : ∃ c, Lab e T c := by
  have key : ∀ b, b ≤ T → ∃ c, LabQ e T (fun x z => z < b) c := by
    intro b
    induction b with
    | zero => exact fun _ => ⟨_, lab_congr (lab_id e T) (fun x z _ _ _ => ⟨fun h => h.elim, fun h => by omega⟩)⟩
    | succ b ih =>
      intro hb
      have inner : ∀ a, a ≤ b → ∃ c, LabQ e T (fun x z => z < b ∨ (z = b ∧ x < a)) c := by
        intro a
        induction a with
        | zero =>
          intro _
          obtain ⟨c, hc⟩ := ih (by omega)
          exact ⟨c, lab_congr hc (fun x z _ _ _ => ⟨fun h => Or.inl h, fun h => by omega⟩)⟩
        | succ a ih2 =>
          intro ha
          obtain ⟨c, hc⟩ := ih2 (by omega)
          by_cases he : e a b
          · exact ⟨_, lab_congr (lab_rel hc (show a < b by omega) (by omega) he) (fun x z _ _ _ => ⟨fun h => by omega, fun h => by omega⟩)⟩
          · refine ⟨c, lab_congr hc (fun x z h1 h2 h3 => ⟨fun h => by omega, fun h => ?_⟩)⟩
            rcases h with h | ⟨h4, h5⟩
            · exact Or.inl h
            · by_cases q : x = a
              · subst q; subst h4; exact absurd h3 he
              · exact Or.inr ⟨h4, by omega⟩
      obtain ⟨c, hc⟩ := inner b (Nat.le_refl b)
      exact ⟨c, lab_congr hc (fun x z h1 _ _ => ⟨fun h => by omega, fun h => by omega⟩)⟩
  obtain ⟨c, hc⟩ := key T (Nat.le_refl T)
  exact ⟨c, lab_done hc (fun x z _ h => h)⟩
/-! the model's rounds -/
def gd (f c : Nat → Nat) : Nat → Nat
  | 0 => 0
  | n + 1 => gd f c n + (if f n = c n then 1 else 0)
theorem gd_le (f c : Nat → Nat) : ∀ n, gd f c n ≤ n
  | 0 => Nat.le_refl 0
  | n + 1 => by
    have := gd_le f c n
    show gd f c n + _ ≤ n + 1
    split <;> omega
theorem gd_mono {f g c : Nat → Nat} : ∀ {n : Nat}, (∀ t, t < n → f t = c t → g t = c t) → gd f c n ≤ gd g c n
  | 0, _ => Nat.le_refl 0
  | n + 1, h => by
    have h1 := gd_mono (n := n) (fun t ht => h t (by omega))
    have h2 := h n (by omega)
    show gd f c n + _ ≤ gd g c n + _
    by_cases q : f n = c n
    · rw [if_pos q, if_pos (h2 q)]; omega
    · rw [if_neg q]; split <;> omega
theorem gd_lt {f g c : Nat → Nat} {k : Nat} : ∀ {n : Nat}, (∀ t, t < n → f t = c t → g t = c t) → k < n → f k ≠ c k → g k = c k → gd f c n < gd g c n
  | 0, _, h, _, _ => by omega
  | n + 1, h, hk, h1, h2 => by
    show gd f c n + _ < gd g c n + _
    by_cases q : k = n
    · subst q
      have := gd_mono (f := f) (g := g) (c := c) (n := k) (fun t ht => h t (by omega))
      rw [if_neg h1, if_pos h2]; omega
    · have := gd_lt (n := n) (fun t ht => h t (by omega)) (by omega) h1 h2
      have h3 := h n (by omega)
      by_cases q : f n = c n
      · rw [if_pos q, if_pos (h3 q)]; omega
      · rw [if_neg q]; split <;> omega
theorem gd_all {f c : Nat → Nat} : ∀ {n : Nat}, gd f c n = n → ∀ t, t < n → f t = c t
  | 0, _, t, ht => by omega
  | n + 1, h, t, ht => by
    have h1 := gd_le f c n
    have h2 : gd f c n + (if f n = c n then 1 else 0) = n + 1 := h
    by_cases q : f n = c n
    · rw [if_pos q] at h2
      by_cases e : t = n
      · subst e; exact q
      · exact gd_all (n := n) (by omega) t (by omega)
    · rw [if_neg q] at h2; omega
/-- what holds of the model's labels all the way: they stay in the net, and at or below the start -/
def Lin (e : Nat → Nat → Prop) (T : Nat) (f : Nat → Nat) : Prop := (∀ t, t < T → f t ≤ t) ∧ ∀ g, EInv e T g → ∀ t, t < T → g t = g (f t)
theorem lin_ge {e : Nat → Nat → Prop} {T : Nat} {c f : Nat → Nat} (hc : Lab e T c) (h : Lin e T f) {t : Nat} (ht : t < T) : c t ≤ f t := by
  rw [h.2 c hc.1 t ht]
  exact hc.2.1 _ (Nat.lt_of_le_of_lt (h.1 t ht) ht)
theorem lin_upd {e : Nat → Nat → Prop} {T : Nat} {f : Nat → Nat} {a b : Nat} (h : Lin e T f) (hab : a < b) (hb : b < T) (he : e a b) : Lin e T (va_up (va_up f a (min (f a) (f b))) b (min (f a) (f b))) := by
  have ha1 := h.1 a (by omega)
  have hb1 := h.1 b hb
  refine ⟨fun t ht => ?_, fun g hg t ht => ?_⟩
  · by_cases q : t = b
    · subst q; rw [va_up_self]; omega
    · rw [va_up_ne _ _ q]
      by_cases q2 : t = a
      · subst q2; rw [va_up_self]; omega
      · rw [va_up_ne _ _ q2]; exact h.1 t ht
  · have e1 := h.2 g hg a (by omega)
    have e2 := h.2 g hg b hb
    have e3 := hg a b hab hb he
    have e4 : g (min (f a) (f b)) = g a := by
      rcases Nat.le_total (f a) (f b) with q | q
      · rw [Nat.min_eq_left q]; exact e1.symm
      · rw [Nat.min_eq_right q]; omega
    by_cases q : t = b
    · subst q; rw [va_up_self]; omega
    · rw [va_up_ne _ _ q]
      by_cases q2 : t = a
      · subst q2; rw [va_up_self]; omega
      · rw [va_up_ne _ _ q2]; exact h.2 g hg t ht
theorem lin_round {e : Nat → Nat → Prop} {T : Nat} {c f g : Nat → Nat} (hc : Lab e T c) (hf : Lin e T f) (hg : Lin e T g) (hle : ∀ t, t < T → g t ≤ f t) (hr : ∀ a b, a < b → b < T → e a b → g a ≤ f b ∧ g b ≤ f a) (hn : gd f c T < T) : gd f c T < gd g c T := by
  have hmono : ∀ t, t < T → f t = c t → g t = c t := fun t ht q => by
    have h1 := lin_ge hc hg ht
    have h2 := hle t ht
    omega
  by_cases hs : ∃ k, k < T ∧ f k ≠ c k ∧ g k = c k
  · obtain ⟨k, h1, h2, h3⟩ := hs
    exact gd_lt hmono h1 h2 h3
  · exfalso
    have hsame : ∀ t, t < T → g t = c t → f t = c t := fun t ht q => by
      by_cases q2 : f t = c t
      · exact q2
      · exact absurd ⟨t, ht, q2, q⟩ hs
    have hinv : EInv e T (fun t => if f t = c t then 1 else 0) := by
      intro a b hab hb he
      have e1 := hc.1 a b hab hb he
      have e2 := hr a b hab hb he
      have ga := lin_ge hc hg (t := a) (by omega)
      have gb := lin_ge hc hg (t := b) hb
      show (if f a = c a then 1 else 0) = (if f b = c b then 1 else 0)
      by_cases q : f a = c a
      · rw [if_pos q, if_pos (hsame b hb (by omega))]
      · rw [if_neg q]
        by_cases q2 : f b = c b
        · exact absurd (hsame a (by omega) (by omega)) q
        · rw [if_neg q2]
    have hall : ∀ t, t < T → f t = c t := by
      intro t ht
      have h1 := hc.2.2 _ hinv t ht
      have hct : c t < T := Nat.lt_of_le_of_lt (hc.2.1 t ht) ht
      have h2 := hf.1 (c t) hct
      have h3 := lin_ge hc hf hct
      rw [lab_idem hc ht] at h3
      have h4 : f (c t) = c (c t) := by rw [lab_idem hc ht]; omega
      have h5 : (if f t = c t then 1 else 0) = (if f (c t) = c (c t) then 1 else 0) := h1
      rw [if_pos h4] at h5
      by_cases q : f t = c t
      · exact q
      · rw [if_neg q] at h5; omega
    have key : ∀ n, n ≤ T → gd f c n = n := by
      intro n
      induction n with
      | zero => exact fun _ => rfl
      | succ n ih =>
        intro hn
        show gd f c n + _ = n + 1
        rw [ih (by omega), if_pos (hall n (by omega))]
    have := key T (Nat.le_refl T)
    omega
