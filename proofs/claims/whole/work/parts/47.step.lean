/-! what a change leaves: both objects between two calls again -/
section GH
variable {A B : Mem}
theorem gh_e (hk : ∀ k, 2 ≤ k → A k = B k) : eD A = eD B := by
  funext a b
  unfold eD
  rw [hk _ (by omega), hk _ (by omega), hk _ (by omega), hk _ (by omega)]
theorem gh_w (hk : ∀ k, 2 ≤ k → A k = B k) : wD A = wD B := by
  funext a b
  unfold wD
  rw [hk _ (by omega), hk _ (by omega), hk _ (by omega), hk _ (by omega)]
theorem gh_eN (hk : ∀ k, 2 ≤ k → A k = B k) (c : Nat → Nat) (g T : Nat) : eN A c g T = eN B c g T := by unfold eN; rw [gh_e hk]
theorem gh_wN (hk : ∀ k, 2 ≤ k → A k = B k) (c : Nat → Nat) (g T : Nat) : wN A c g T = wN B c g T := by unfold wN; rw [gh_w hk]
theorem gh_xN (hk : ∀ k, 2 ≤ k → A k = B k) (c : Nat → Nat) (g T o : Nat) : xN A c g T o = xN B c g T o := by unfold xN; rw [gh_eN hk, gh_wN hk]
theorem gh_dN (hk : ∀ k, 2 ≤ k → A k = B k) (c : Nat → Nat) (g T o : Nat) : dN A c g T o = dN B c g T o := by unfold dN; rw [gh_eN hk]
theorem gh_kB (hk : ∀ k, 2 ≤ k → A k = B k) (c : Nat → Nat) (T : Nat) : ∀ g, kB A c T g = kB B c T g
  | 0 => rfl
  | g + 1 => by
    show (if c g = g then kB A c T g * dN A c g T 0 else kB A c T g) = (if c g = g then kB B c T g * dN B c g T 0 else kB B c T g)
    rw [gh_kB hk c T g, gh_dN hk]
theorem gh_kA (hk : ∀ k, 2 ≤ k → A k = B k) (c : Nat → Nat) (T : Nat) : ∀ g, kA A c T g = kA B c T g
  | 0 => rfl
  | g + 1 => by
    show (if c g = g then kA A c T g * dN A c g T 0 + clS (eN A c g T) (wN A c g T) (nN c g T + 1) (xN A c g T 0) * kB A c T g else kA A c T g) = (if c g = g then kA B c T g * dN B c g T 0 + clS (eN B c g T) (wN B c g T) (nN c g T + 1) (xN B c g T 0) * kB B c T g else kA B c T g)
    rw [gh_kA hk c T g, gh_kB hk, gh_dN hk, gh_eN hk, gh_wN hk, gh_xN hk]
theorem gh_fA (hk : ∀ k, 2 ≤ k → A k = B k) (c : Nat → Nat) (g T o i : Nat) : fA A c g T o i = fA B c g T o i := by unfold fA; rw [gh_xN hk, gh_dN hk]
theorem gh_fB (hk : ∀ k, 2 ≤ k → A k = B k) (c : Nat → Nat) (g T o i : Nat) : fB A c g T o i = fB B c g T o i := by unfold fB; rw [gh_xN hk, gh_dN hk]
theorem gh_sq (hk : ∀ k, 2 ≤ k → A k = B k) : sqD A = sqD B := by
  funext a b
  unfold sqD
  rw [gh_e hk, gh_w hk]
theorem gh_CS (hk : ∀ k, 2 ≤ k → A k = B k) {M : Mem} {T : Nat} (h : CS B M T) : CS A M T := by
  unfold CS at *
  rw [gh_e hk, gh_sq hk]
  exact h
theorem gh_CO (hk : ∀ k, 2 ≤ k → A k = B k) {M : Mem} {c : Nat → Nat} {T t : Nat} (h : CO B M c T t) : CO A M c T t := by
  refine ⟨h.1, h.2.1, by rw [gh_kA hk]; exact h.2.2.1, by rw [gh_kB hk]; exact h.2.2.2.1, fun g hg hc i hi => ?_⟩
  rw [gh_fA hk, gh_fB hk]
  exact h.2.2.2.2 g hg hc i hi
theorem gh_TR (hk : ∀ k, 2 ≤ k → A k = B k) {t : Nat} (h : TR B t) : TR A t := h.of (hk _ (by omega)) (hk _ (by omega))
theorem gh_LK (hk : ∀ k, 2 ≤ k → A k = B k) {t : Nat} (h : LK B t) : LK A t := by
  unfold LK at *
  rw [hk 54 (by omega), hk 55 (by omega), hk 56 (by omega), hk (2 + 2 * t) (by omega), hk (2 + 2 * t + 1) (by omega)]
  exact h
theorem gh_GT (hk : ∀ k, 2 ≤ k → A k = B k) {T : Nat} (h : GT B T) : GT A T := ⟨h.1, fun t ht => ⟨gh_TR hk (h.2 t ht).1, gh_LK hk (h.2 t ht).2⟩⟩
theorem gh_UT (hk : ∀ k, 2 ≤ k → A k = B k) {T : Nat} (h : UT B T) : UT A T := by
  intro t h1 h2
  rw [hk 55 (by omega), hk 56 (by omega), hk (2 + 2 * t) (by omega), hk (2 + 2 * t + 1) (by omega)]
  exact h t h1 h2
end GH
def gh (M : Mem) (P : Nat → Int) : Mem := fun k => if k = 1 then P else M k
theorem gh_2 (M : Mem) (P : Nat → Int) : ∀ k, 2 ≤ k → gh M P k = M k := fun k hk => by unfold gh; rw [if_neg (by omega)]
theorem gh_1 (M : Mem) (P : Nat → Int) : gh M P 1 = P := by unfold gh; rw [if_pos rfl]
theorem EN.ut {M0 M : Mem} (h : EN M0 M) {T : Nat} (hu : UT M0 T) : UT M T := by
  intro t h1 h2
  rw [h.1 (2 + 2 * t) (by omega) (by omega), h.1 (2 + 2 * t + 1) (by omega) (by omega), h.2.2.1, h.2.2.2]
  exact hu t h1 h2
theorem EN.gt {M0 M : Mem} (h : EN M0 M) {T : Nat} (hg : GT M0 T) : GT M T := ⟨hg.1, fun t ht => ⟨h.tr (by have := hg.1; omega) (hg.2 t ht).1, h.lk (by have := hg.1; omega) (hg.2 t ht).2⟩⟩
/-- anew, with the closing old -/
theorem IV.renew {M0 : Mem} {T N : Nat} {c : Nat → Nat} {M : Mem} (h : IV M0 T N c M) {M2 : Mem} {T' : Nat} (hG : GT M2 T') (hU : UT M2 T') (a : M2 0 5 = (T' : Int)) (b : M2 53 0 = (T' : Int)) (old : M2 0 6 = 1) (k50 : M2 50 = M 50) (k51 : M2 51 = M 51) (k57 : M2 57 = M 57) (k4 : M2 53 4 = M 53 4) : ∃ M0' T' N' c', IV M0' T' N' c' M2 := by
  have hk := gh_2 M2 (M2 51)
  obtain ⟨c', hc⟩ := lab_exists (eD (gh M2 (M2 51))) T'
  refine ⟨gh M2 (M2 51), T', N, c', IV.mk (gh_GT hk hG) ⟨fun k h1 _ => (hk k h1).symm, (hk _ (by omega)).symm, (hk _ (by omega)).symm, (hk _ (by omega)).symm⟩ (gh_UT hk hU) hc a b h.n6 (by rw [k50]; exact h.n50) (by rw [k4]; exact h.n53) (gh_1 _ _).symm (fun k hk6 => ?_) (fun k hkN => ?_) (Or.inl old)⟩
  · rw [gh_1, k57, k51, h.p51]; exact h.p57 k hk6
  · rw [gh_1, k51, h.p51]; exact h.pb k hkN
theorem TR.pt {M M' : Mem} {t : Nat} (h : TR M t) (hf : ∀ f, f < 6 → M' (2 + 2 * t) f = M (2 + 2 * t) f) (h6 : M' (2 + 2 * t) 6 = 0 ∨ M' (2 + 2 * t) 6 = 1) (hh : ∀ i, i < 9 → M' (2 + 2 * t + 1) i = 200000 ∨ (-10000 ≤ M' (2 + 2 * t + 1) i ∧ M' (2 + 2 * t + 1) i ≤ 10000)) : TR M' t := by
  obtain ⟨a0, a1, a2, a3, a4, a5, a6, a7⟩ := h
  have e0 := hf 0 (by omega)
  have e1 := hf 1 (by omega)
  have e2 := hf 2 (by omega)
  have e3 := hf 3 (by omega)
  have e4 := hf 4 (by omega)
  have e5 := hf 5 (by omega)
  refine ⟨?_, ?_, ?_, ?_, ?_, ?_, h6, hh⟩ <;> omega
theorem LK.pt {M M' : Mem} {t : Nat} (h : LK M t) (hf : ∀ f, f < 6 → M' (2 + 2 * t) f = M (2 + 2 * t) f) (he : ∀ f, f < 6 → M' 54 (6 * t + f) = M 54 (6 * t + f)) (h6 : M' 56 t = M' (2 + 2 * t) 6) (hh : ∀ i, i < 9 → M' 55 (9 * t + i) = M' (2 + 2 * t + 1) i) : LK M' t := by
  obtain ⟨a0, a1, a2, a3, a4, a5, a6, a7⟩ := h
  have e0 := hf 0 (by omega)
  have e1 := hf 1 (by omega)
  have e2 := hf 2 (by omega)
  have e3 := hf 3 (by omega)
  have e4 := hf 4 (by omega)
  have e5 := hf 5 (by omega)
  have g0 : M' 54 (6 * t) = M 54 (6 * t) := he 0 (by omega)
  have g1 := he 1 (by omega)
  have g2 := he 2 (by omega)
  have g3 := he 3 (by omega)
  have g4 := he 4 (by omega)
  have g5 := he 5 (by omega)
  refine ⟨?_, ?_, ?_, ?_, ?_, ?_, h6, hh⟩ <;> omega
theorem iv_track {M0 : Mem} {T N : Nat} {c : Nat → Nat} {M M1 M2 : Mem} {x0 y0 x1 y1 t0 t1 : Int} (h : IV M0 T N c M) (hV : VT x0 y0 x1 y1 t0 t1) (h8 : T < 8) (u1 : TUc M T x0 y0 x1 y1 t0 t1 M1) (u2 : TUm M1 T x0 y0 x1 y1 t0 t1 M2) : ∃ M0' T' N' c', IV M0' T' N' c' M2 := by
  have hG := h.e.gt h.g
  have hU := h.e.ut h.u
  obtain ⟨k1, a5, a6, f0, f1, f2, f3, f4, f5, f6⟩ := u1
  obtain ⟨k2, b0, b4, g0, g1, g2, g3, g4, g5, gq⟩ := u2
  have row : ∀ k, k ≠ 0 → k ≠ 2 + 2 * T → k ≠ 53 → k ≠ 54 → M2 k = M k := fun k q1 q2 q3 q4 => by rw [k2 k q3 q4, k1 k q1 q2]
  have r0 : M2 0 = M1 0 := k2 0 (by omega) (by omega)
  have rT : M2 (2 + 2 * T) = M1 (2 + 2 * T) := k2 _ (by omega) (by omega)
  have c54 : M1 54 = M 54 := k1 54 (by omega) (by omega)
  have hUT := hU T (Nat.le_refl _) h8
  obtain ⟨v0, v1, v2, v3, v4, v5, v6, v7⟩ := hV
  refine h.renew (T' := T + 1) ⟨by omega, fun t ht => ?_⟩ (fun t q1 q2 => ?_) (by rw [r0, a5]; omega) (by rw [b0]; omega) (by rw [r0, a6]) (row 50 (by omega) (by omega) (by omega) (by omega)) (row 51 (by omega) (by omega) (by omega) (by omega)) (row 57 (by omega) (by omega) (by omega) (by omega)) (by rw [b4, k1 53 (by omega) (by omega)])
  · by_cases e : t = T
    · subst e
      rw [← rT] at f0 f1 f2 f3 f4 f5 f6
      have rh : M2 (2 + 2 * t + 1) = M (2 + 2 * t + 1) := row _ (by omega) (by omega) (by omega) (by omega)
      have hz : M2 (2 + 2 * t) 6 = 0 := f6.trans hUT.1
      refine ⟨⟨by omega, by omega, by omega, by omega, by omega, by omega, Or.inl hz, fun i hi => ?_⟩, by omega, by omega, by omega, by omega, by omega, by omega, ?_, fun i hi => ?_⟩
      · rw [rh]; exact Or.inl (hUT.2.2 i hi).1
      · rw [row 56 (by omega) (by omega) (by omega) (by omega), hz]; exact hUT.2.1
      · rw [row 55 (by omega) (by omega) (by omega) (by omega), rh, (hUT.2.2 i hi).1, (hUT.2.2 i hi).2]
    · have ht2 : t < T := by omega
      have rt : M2 (2 + 2 * t) = M (2 + 2 * t) := row _ (by omega) (by omega) (by omega) (by omega)
      have rh : M2 (2 + 2 * t + 1) = M (2 + 2 * t + 1) := row _ (by omega) (by omega) (by omega) (by omega)
      have hL := (hG.2 t ht2).2
      refine ⟨(hG.2 t ht2).1.of rt rh, hL.pt (fun f _ => by rw [rt]) (fun f hf => by rw [gq _ (by omega), c54]) ?_ (fun i hi => ?_)⟩
      · rw [row 56 (by omega) (by omega) (by omega) (by omega), rt]; exact hL.2.2.2.2.2.2.1
      · rw [row 55 (by omega) (by omega) (by omega) (by omega), rh]; exact hL.2.2.2.2.2.2.2 i hi
  · rw [row 55 (by omega) (by omega) (by omega) (by omega), row 56 (by omega) (by omega) (by omega) (by omega), row (2 + 2 * t) (by omega) (by omega) (by omega) (by omega), row (2 + 2 * t + 1) (by omega) (by omega) (by omega) (by omega)]
    exact hU t (by omega) q2
theorem iv_read {M0 : Mem} {T N : Nat} {c : Nat → Nat} {M : Mem} {i k : Nat} {v : Int} (h : IV M0 T N c M) (hi : i < T) (hk : k < 9) (hv : v = 200000 ∨ (-10000 ≤ v ∧ v ≤ 10000)) : ∃ M0' T' N' c', IV M0' T' N' c' (up2 (up2 (up2 M (2 + 2 * i + 1) k v) 0 6 1) 55 (9 * i + k) v) := by
  have hG := h.e.gt h.g
  have hU := h.e.ut h.u
  have h8 := h.g.1
  generalize hM2 : up2 (up2 (up2 M (2 + 2 * i + 1) k v) 0 6 1) 55 (9 * i + k) v = M2
  have row : ∀ q, q ≠ 0 → q ≠ 2 + 2 * i + 1 → q ≠ 55 → M2 q = M q := fun q q1 q2 q3 => by rw [← hM2, up2_row _ _ _ _ q3, up2_row _ _ _ _ q1, up2_row _ _ _ _ q2]
  have rh : ∀ j, M2 (2 + 2 * i + 1) j = if j = k then v else M (2 + 2 * i + 1) j := fun j => by
    rw [← hM2, up2_row _ _ _ _ (by omega), up2_row _ _ _ _ (by omega), up2_at]
    by_cases e : j = k
    · rw [if_pos ⟨rfl, e⟩, if_pos e]
    · rw [if_neg (fun q => e q.2), if_neg e]
  have r55 : ∀ j, M2 55 j = if j = 9 * i + k then v else M 55 j := fun j => by
    rw [← hM2, up2_at]
    by_cases e : j = 9 * i + k
    · rw [if_pos ⟨rfl, e⟩, if_pos e]
    · rw [if_neg (fun q => e q.2), if_neg e, up2_row _ _ _ _ (by omega), up2_row _ _ _ _ (by omega)]
  have r05 : M2 0 5 = M 0 5 := by rw [← hM2, up2_row _ _ _ _ (by omega), up2_ne _ _ _ _ (Or.inr (by omega)), up2_row _ _ _ _ (by omega)]
  have r06 : M2 0 6 = 1 := by rw [← hM2, up2_row _ _ _ _ (by omega), up2_same]
  refine h.renew (T' := T) ⟨h8, fun t ht => ?_⟩ (fun t q1 q2 => ?_) (by rw [r05]; exact h.t5) (by rw [row 53 (by omega) (by omega) (by omega)]; exact h.t53) r06 (row 50 (by omega) (by omega) (by omega)) (row 51 (by omega) (by omega) (by omega)) (row 57 (by omega) (by omega) (by omega)) (by rw [row 53 (by omega) (by omega) (by omega)])
  · have hT := (hG.2 t ht).1
    have hL := (hG.2 t ht).2
    have rt : M2 (2 + 2 * t) = M (2 + 2 * t) := row _ (by omega) (by omega) (by omega)
    have r54 : M2 54 = M 54 := row _ (by omega) (by omega) (by omega)
    refine ⟨hT.pt (fun f _ => by rw [rt]) (by rw [rt]; exact hT.2.2.2.2.2.2.1) (fun j hj => ?_), hL.pt (fun f _ => by rw [rt]) (fun f _ => by rw [r54]) (by rw [row 56 (by omega) (by omega) (by omega), rt]; exact hL.2.2.2.2.2.2.1) (fun j hj => ?_)⟩
    · by_cases e : t = i
      · subst e
        rw [rh]
        split
        · exact hv
        · exact hT.2.2.2.2.2.2.2 j hj
      · rw [row (2 + 2 * t + 1) (by omega) (by omega) (by omega)]; exact hT.2.2.2.2.2.2.2 j hj
    · rw [r55]
      by_cases e : t = i
      · subst e
        rw [rh]
        by_cases e2 : j = k
        · rw [if_pos (by omega), if_pos e2]
        · rw [if_neg (by omega), if_neg e2]; exact hL.2.2.2.2.2.2.2 j hj
      · rw [if_neg (by omega), row (2 + 2 * t + 1) (by omega) (by omega) (by omega)]; exact hL.2.2.2.2.2.2.2 j hj
  · have hu := hU t q1 q2
    rw [row 56 (by omega) (by omega) (by omega), row (2 + 2 * t) (by omega) (by omega) (by omega), row (2 + 2 * t + 1) (by omega) (by omega) (by omega)]
    refine ⟨hu.1, hu.2.1, fun j hj => ⟨(hu.2.2 j hj).1, ?_⟩⟩
    rw [r55, if_neg (by omega)]; exact (hu.2.2 j hj).2
theorem iv_hold {M0 : Mem} {T N : Nat} {c : Nat → Nat} {M : Mem} {i : Nat} {v : Int} (h : IV M0 T N c M) (hi : i < T) (hv : v = 0 ∨ v = 1) : ∃ M0' T' N' c', IV M0' T' N' c' (up2 (up2 (up2 M (2 + 2 * i) 6 v) 0 6 1) 56 i v) := by
  have hG := h.e.gt h.g
  have hU := h.e.ut h.u
  have h8 := h.g.1
  generalize hM2 : up2 (up2 (up2 M (2 + 2 * i) 6 v) 0 6 1) 56 i v = M2
  have row : ∀ q, q ≠ 0 → q ≠ 2 + 2 * i → q ≠ 56 → M2 q = M q := fun q q1 q2 q3 => by rw [← hM2, up2_row _ _ _ _ q3, up2_row _ _ _ _ q1, up2_row _ _ _ _ q2]
  have rh : ∀ j, M2 (2 + 2 * i) j = if j = 6 then v else M (2 + 2 * i) j := fun j => by
    rw [← hM2, up2_row _ _ _ _ (by omega), up2_row _ _ _ _ (by omega), up2_at]
    by_cases e : j = 6
    · rw [if_pos ⟨rfl, e⟩, if_pos e]
    · rw [if_neg (fun q => e q.2), if_neg e]
  have r56 : ∀ j, M2 56 j = if j = i then v else M 56 j := fun j => by
    rw [← hM2, up2_at]
    by_cases e : j = i
    · rw [if_pos ⟨rfl, e⟩, if_pos e]
    · rw [if_neg (fun q => e q.2), if_neg e, up2_row _ _ _ _ (by omega), up2_row _ _ _ _ (by omega)]
  have r05 : M2 0 5 = M 0 5 := by rw [← hM2, up2_row _ _ _ _ (by omega), up2_ne _ _ _ _ (Or.inr (by omega)), up2_row _ _ _ _ (by omega)]
  have r06 : M2 0 6 = 1 := by rw [← hM2, up2_row _ _ _ _ (by omega), up2_same]
  refine h.renew (T' := T) ⟨h8, fun t ht => ?_⟩ (fun t q1 q2 => ?_) (by rw [r05]; exact h.t5) (by rw [row 53 (by omega) (by omega) (by omega)]; exact h.t53) r06 (row 50 (by omega) (by omega) (by omega)) (row 51 (by omega) (by omega) (by omega)) (row 57 (by omega) (by omega) (by omega)) (by rw [row 53 (by omega) (by omega) (by omega)])
  · have hT := (hG.2 t ht).1
    have hL := (hG.2 t ht).2
    have rt : M2 (2 + 2 * t + 1) = M (2 + 2 * t + 1) := row _ (by omega) (by omega) (by omega)
    have r54 : M2 54 = M 54 := row _ (by omega) (by omega) (by omega)
    have rf : ∀ f, f < 6 → M2 (2 + 2 * t) f = M (2 + 2 * t) f := fun f hf => by
      by_cases e : t = i
      · subst e; rw [rh, if_neg (by omega)]
      · rw [row (2 + 2 * t) (by omega) (by omega) (by omega)]
    refine ⟨hT.pt rf ?_ (fun j hj => by rw [rt]; exact hT.2.2.2.2.2.2.2 j hj), hL.pt rf (fun f _ => by rw [r54]) ?_ (fun j hj => by rw [row 55 (by omega) (by omega) (by omega), rt]; exact hL.2.2.2.2.2.2.2 j hj)⟩
    · by_cases e : t = i
      · subst e; rw [rh, if_pos rfl]; exact hv
      · rw [row (2 + 2 * t) (by omega) (by omega) (by omega)]; exact hT.2.2.2.2.2.2.1
    · rw [r56]
      by_cases e : t = i
      · subst e; rw [rh, if_pos rfl, if_pos rfl]
      · rw [if_neg e, row (2 + 2 * t) (by omega) (by omega) (by omega)]; exact hL.2.2.2.2.2.2.1
  · have hu := hU t q1 q2
    rw [r56, if_neg (by omega), row 55 (by omega) (by omega) (by omega), row (2 + 2 * t) (by omega) (by omega) (by omega), row (2 + 2 * t + 1) (by omega) (by omega) (by omega)]
    exact hu
theorem iv_tone {M0 : Mem} {T N : Nat} {c : Nat → Nat} {M : Mem} {x : Int} (h : IV M0 T N c M) (hN : N < 6) (hx : 1 ≤ x ∧ x ≤ 1000000) : ∃ M0' T' N' c', IV M0' T' N' c' (up2 (up2 (up2 (up2 M 51 N x) 50 1 ((N : Int) + 1)) 57 N x) 53 4 ((N : Int) + 1)) := by
  generalize hM2 : up2 (up2 (up2 (up2 M 51 N x) 50 1 ((N : Int) + 1)) 57 N x) 53 4 ((N : Int) + 1) = M2
  have row : ∀ q, q ≠ 50 → q ≠ 51 → q ≠ 53 → q ≠ 57 → M2 q = M q := fun q q1 q2 q3 q4 => by rw [← hM2, up2_row _ _ _ _ q3, up2_row _ _ _ _ q4, up2_row _ _ _ _ q1, up2_row _ _ _ _ q2]
  have r51 : ∀ j, M2 51 j = if j = N then x else M 51 j := fun j => by
    rw [← hM2, up2_row _ _ _ _ (by omega), up2_row _ _ _ _ (by omega), up2_row _ _ _ _ (by omega), up2_at]
    by_cases e : j = N
    · rw [if_pos ⟨rfl, e⟩, if_pos e]
    · rw [if_neg (fun q => e q.2), if_neg e]
  have r57 : ∀ j, M2 57 j = if j = N then x else M 57 j := fun j => by
    rw [← hM2, up2_row _ _ _ _ (by omega), up2_at]
    by_cases e : j = N
    · rw [if_pos ⟨rfl, e⟩, if_pos e]
    · rw [if_neg (fun q => e q.2), if_neg e, up2_row _ _ _ _ (by omega), up2_row _ _ _ _ (by omega)]
  have r50 : M2 50 1 = ((N + 1 : Nat) : Int) := by rw [← hM2, up2_row _ _ _ _ (by omega), up2_row _ _ _ _ (by omega), up2_same]; omega
  have r534 : M2 53 4 = ((N + 1 : Nat) : Int) := by rw [← hM2, up2_same]; omega
  have r530 : M2 53 0 = M 53 0 := by rw [← hM2, up2_ne _ _ _ _ (Or.inr (by omega)), up2_row _ _ _ _ (by omega), up2_row _ _ _ _ (by omega), up2_row _ _ _ _ (by omega)]
  have hk := gh_2 M0 (M2 51)
  have hk' : ∀ k, 2 ≤ k → gh M0 (M2 51) k = M0 k := hk
  have e51 := h.p51
  refine ⟨gh M0 (M2 51), T, N + 1, c, IV.mk (gh_GT hk h.g) ⟨fun k h1 h2 => ?_, ?_, ?_, ?_⟩ (gh_UT hk h.u) (by rw [gh_e hk]; exact h.l) (by rw [row 0 (by omega) (by omega) (by omega) (by omega)]; exact h.t5) (by rw [r530]; exact h.t53) (by omega) r50 r534 (gh_1 _ _).symm (fun k hk6 => ?_) (fun k hkN => ?_) ?_⟩
  · rw [hk k (by omega), row k (by omega) (by omega) (by omega) (by omega)]; exact h.e.1 k h1 h2
  · rw [hk 54 (by omega), row 54 (by omega) (by omega) (by omega) (by omega)]; exact h.e.2.1
  · rw [hk 55 (by omega), row 55 (by omega) (by omega) (by omega) (by omega)]; exact h.e.2.2.1
  · rw [hk 56 (by omega), row 56 (by omega) (by omega) (by omega) (by omega)]; exact h.e.2.2.2
  · rw [gh_1, r57, r51, e51]
    split
    · rfl
    · exact h.p57 k hk6
  · rw [gh_1, r51, e51]
    split
    · exact hx
    · exact h.pb k (by omega)
  · rw [row 0 (by omega) (by omega) (by omega) (by omega)]
    rcases h.cl with q | ⟨q1, q2, q3⟩
    · exact Or.inl q
    · exact Or.inr ⟨q1, gh_CS hk (q2.of (row 19 (by omega) (by omega) (by omega) (by omega))), gh_CO hk (q3.of h.g.1 (fun k h1 h2 => row k (by omega) (by omega) (by omega) (by omega)))⟩
