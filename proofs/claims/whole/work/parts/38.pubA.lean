/-- tracks not yet there: nothing read, not held out -/
def UT (M : Mem) (T : Nat) : Prop := ∀ t, T ≤ t → t < 8 → M (2 + 2 * t) 6 = 0 ∧ M 56 t = 0 ∧ ∀ i, i < 9 → M (2 + 2 * t + 1) i = 200000 ∧ M 55 (9 * t + i) = 200000
/-- both objects between two calls -/
def IV (M0 : Mem) (T N : Nat) (c : Nat → Nat) (M : Mem) : Prop := (GT M0 T) ∧ (EN M0 M) ∧ (UT M0 T) ∧ (Lab (eD M0) T c) ∧ (M 0 5 = (T : Int)) ∧ (M 53 0 = (T : Int)) ∧ (N ≤ 6) ∧ (M 50 1 = (N : Int)) ∧ (M 53 4 = (N : Int)) ∧ (M 51 = M0 1) ∧ (∀ k, k < 6 → M 57 k = M0 1 k) ∧ (∀ k, k < N → 1 ≤ M0 1 k ∧ M0 1 k ≤ 1000000) ∧ (M 0 6 = 1 ∨ (M 0 6 = 0 ∧ CS M0 M T ∧ CO M0 M c T T))
theorem IV.g {M0 : Mem} {T N : Nat} {c : Nat → Nat} {M : Mem} (h : IV M0 T N c M) : GT M0 T := h.1
theorem IV.e {M0 : Mem} {T N : Nat} {c : Nat → Nat} {M : Mem} (h : IV M0 T N c M) : EN M0 M := h.2.1
theorem IV.u {M0 : Mem} {T N : Nat} {c : Nat → Nat} {M : Mem} (h : IV M0 T N c M) : UT M0 T := h.2.2.1
theorem IV.l {M0 : Mem} {T N : Nat} {c : Nat → Nat} {M : Mem} (h : IV M0 T N c M) : Lab (eD M0) T c := h.2.2.2.1
theorem IV.t5 {M0 : Mem} {T N : Nat} {c : Nat → Nat} {M : Mem} (h : IV M0 T N c M) : M 0 5 = (T : Int) := h.2.2.2.2.1
theorem IV.t53 {M0 : Mem} {T N : Nat} {c : Nat → Nat} {M : Mem} (h : IV M0 T N c M) : M 53 0 = (T : Int) := h.2.2.2.2.2.1
theorem IV.n6 {M0 : Mem} {T N : Nat} {c : Nat → Nat} {M : Mem} (h : IV M0 T N c M) : N ≤ 6 := h.2.2.2.2.2.2.1
theorem IV.n50 {M0 : Mem} {T N : Nat} {c : Nat → Nat} {M : Mem} (h : IV M0 T N c M) : M 50 1 = (N : Int) := h.2.2.2.2.2.2.2.1
theorem IV.n53 {M0 : Mem} {T N : Nat} {c : Nat → Nat} {M : Mem} (h : IV M0 T N c M) : M 53 4 = (N : Int) := h.2.2.2.2.2.2.2.2.1
theorem IV.p51 {M0 : Mem} {T N : Nat} {c : Nat → Nat} {M : Mem} (h : IV M0 T N c M) : M 51 = M0 1 := h.2.2.2.2.2.2.2.2.2.1
theorem IV.p57 {M0 : Mem} {T N : Nat} {c : Nat → Nat} {M : Mem} (h : IV M0 T N c M) : ∀ k, k < 6 → M 57 k = M0 1 k := h.2.2.2.2.2.2.2.2.2.2.1
theorem IV.pb {M0 : Mem} {T N : Nat} {c : Nat → Nat} {M : Mem} (h : IV M0 T N c M) : ∀ k, k < N → 1 ≤ M0 1 k ∧ M0 1 k ≤ 1000000 := h.2.2.2.2.2.2.2.2.2.2.2.1
theorem IV.cl {M0 : Mem} {T N : Nat} {c : Nat → Nat} {M : Mem} (h : IV M0 T N c M) : M 0 6 = 1 ∨ (M 0 6 = 0 ∧ CS M0 M T ∧ CO M0 M c T T) := h.2.2.2.2.2.2.2.2.2.2.2.2
theorem IV.mk {M0 : Mem} {T N : Nat} {c : Nat → Nat} {M : Mem} (g : GT M0 T) (e : EN M0 M) (u : UT M0 T) (l : Lab (eD M0) T c) (t5 : M 0 5 = (T : Int)) (t53 : M 53 0 = (T : Int)) (n6 : N ≤ 6) (n50 : M 50 1 = (N : Int)) (n53 : M 53 4 = (N : Int)) (p51 : M 51 = M0 1) (p57 : ∀ k, k < 6 → M 57 k = M0 1 k) (pb : ∀ k, k < N → 1 ≤ M0 1 k ∧ M0 1 k ≤ 1000000) (cl : M 0 6 = 1 ∨ (M 0 6 = 0 ∧ CS M0 M T ∧ CO M0 M c T T)) : IV M0 T N c M := ⟨g, e, u, l, t5, t53, n6, n50, n53, p51, p57, pb, cl⟩
theorem CS.of {M0 M M' : Mem} {T : Nat} (h : CS M0 M T) (hk : M' 19 = M 19) : CS M0 M' T := by unfold CS at *; rw [hk]; exact h
theorem CO.of {M0 M M' : Mem} {c : Nat → Nat} {T t : Nat} (h : CO M0 M c T t) (h8 : T ≤ 8) (hk : ∀ k, 19 ≤ k → k < 29 → M' k = M k) : CO M0 M' c T t := by
  unfold CO at *
  rw [hk 19 (by omega) (by omega)]
  refine ⟨h.1, h.2.1, h.2.2.1, h.2.2.2.1, fun g hg hcg i hi => ?_⟩
  have hm := (me_in hi).1
  rw [hk _ (by omega) (by omega)]
  exact h.2.2.2.2 g hg hcg i hi
theorem IV.of {M0 : Mem} {T N : Nat} {c : Nat → Nat} {M M' : Mem} (h : IV M0 T N c M) (hk : ∀ k, (k < 18 ∨ (19 ≤ k ∧ k < 29) ∨ k = 50 ∨ k = 51 ∨ (54 ≤ k ∧ k < 58)) → M' k = M k) (h0 : M' 53 0 = M 53 0) (h4 : M' 53 4 = M 53 4) : IV M0 T N c M' := by
  refine IV.mk h.g (h.e.of (fun k hk2 => hk k (by omega))) h.u h.l (by rw [hk 0 (by omega)]; exact h.t5) (by rw [h0]; exact h.t53) h.n6 (by rw [hk 50 (by omega)]; exact h.n50) (by rw [h4]; exact h.n53) (by rw [hk 51 (by omega)]; exact h.p51) (by rw [hk 57 (by omega)]; exact h.p57) h.pb ?_
  rw [hk 0 (by omega)]
  rcases h.cl with q | ⟨q1, q2, q3⟩
  · exact Or.inl q
  · exact Or.inr ⟨q1, q2.of (hk 19 (by omega)), q3.of h.g.1 (fun k h1 h2 => hk k (by omega))⟩
theorem IV.c18 {M0 : Mem} {T N : Nat} {c : Nat → Nat} {M M' : Mem} (h : IV M0 T N c M) (hk : ∀ k, k ≠ 18 → k ≠ 52 → M' k = M k) : IV M0 T N c M' := h.of (fun k _ => hk k (by omega) (by omega)) (by rw [hk 53 (by omega) (by omega)]) (by rw [hk 53 (by omega) (by omega)])
theorem IV.fr {M0 : Mem} {T N : Nat} {c : Nat → Nat} {M M' : Mem} (h : IV M0 T N c M) (hf : FR M M') : IV M0 T N c M' := h.of (fun k _ => hf.1 k (by omega)) (hf.2 0 (by omega) (by omega) (by omega) (by omega) (by omega)) (hf.2 4 (by omega) (by omega) (by omega) (by omega) (by omega))
theorem IV.fn {M0 : Mem} {T N : Nat} {c : Nat → Nat} {M M' : Mem} (h : IV M0 T N c M) (hf : FN M M') : IV M0 T N c M' := h.of (fun k _ => hf.1 k (by omega) (by omega)) (hf.2 0 (by omega) (by omega) (by omega) (by omega) (by omega)) (hf.2 4 (by omega) (by omega) (by omega) (by omega) (by omega))
theorem IV.fo {M0 : Mem} {T N : Nat} {c : Nat → Nat} {M M' : Mem} (h : IV M0 T N c M) (hf : FO M M') : IV M0 T N c M' := h.of (fun k _ => hf.1 k (by omega) (by omega) (by omega) (by omega) (by omega) (by omega)) (hf.2 0 (by omega) (by omega) (by omega) (by omega) (by omega)) (hf.2 4 (by omega) (by omega) (by omega) (by omega) (by omega))
/-- the place of a track in its net -/
noncomputable def ix (c : Nat → Nat) (T t : Nat) : Nat := Classical.epsilon (fun i => i < (ml c (c t) T).length ∧ me c (c t) T i = t)
theorem ix_spec {c : Nat → Nat} {T t : Nat} (ht : t < T) : ix c T t < (ml c (c t) T).length ∧ me c (c t) T (ix c T t) = t := Classical.epsilon_spec (me_ex (c := c) (g := c t) (T := T) ht rfl)
theorem ix_uni {c : Nat → Nat} {T t i : Nat} (ht : t < T) (hi : i < (ml c (c t) T).length) (he : me c (c t) T i = t) : i = ix c T t := me_inj hi (ix_spec ht).1 (he.trans (ix_spec ht).2.symm)
noncomputable def oA (M0 : Mem) (c : Nat → Nat) (T t : Nat) : Int := fA M0 c (c t) T 0 (ix c T t)
noncomputable def oB (M0 : Mem) (c : Nat → Nat) (T t : Nat) : Int := fB M0 c (c t) T 0 (ix c T t)
theorem f_scale {M0 : Mem} {T : Nat} {c : Nat → Nat} (hG : GT M0 T) (hc : Lab (eD M0) T c) {g i : Nat} (hi : i < (ml c g T).length) : fA M0 c g T 1 i = fA M0 c g T 0 i ∧ fB M0 c g T 1 i = fB M0 c g T 0 i := by
  have b0 := xN_bd hG hc (g := g) (by omega) (o := 0) (by omega)
  have b1 := xN_bd hG hc (g := g) (by omega) (o := 1) (by omega)
  have hi' : i < nN c g T + 1 := by unfold nN; omega
  have hs := off_scale b0.2.2.2.2.1 b0.2.2.2.2.2 b1.2.2.2.2.2 hi'
  have hp : (0 : Int) < ((nN c g T + 1 : Nat) : Int) := by omega
  refine frac_eq (Int.mul_pos hp b1.2.1) (Int.mul_pos hp b0.2.1) ?_
  grind
theorem CO.at {M0 M : Mem} {c : Nat → Nat} {T : Nat} (h : CO M0 M c T T) (hc : Lab (eD M0) T c) {t : Nat} (ht : t < T) : M (21 + t) 0 = oA M0 c T t ∧ M (21 + t) 1 = oB M0 c T t := by
  have hs := ix_spec (c := c) (T := T) ht
  have hct := hc.2.1 t ht
  have := h.2.2.2.2 (c t) (by omega) (lab_idem hc ht) (ix c T t) hs.1
  rw [hs.2] at this
  exact this
noncomputable def fCrosses (M0 : Mem) (T : Nat) (a b : Int) : Int := cif ((0 ≤ a ∧ a < (T : Int)) ∧ (0 ≤ b ∧ b < (T : Int)) ∧ a ≠ b) (cif (cIs (M0 (2 + 2 * a.toNat)) (M0 (2 + 2 * b.toNat))) 1 0) (-1)
noncomputable def fDiff (M0 : Mem) (T : Nat) (a b : Int) : Int := cif ((0 ≤ a ∧ a < (T : Int)) ∧ (0 ≤ b ∧ b < (T : Int)) ∧ a < b) (cif (eD M0 a.toNat b.toNat) (wD M0 a.toNat b.toNat) (-1000000002)) (-1000000001)
noncomputable def fLoop (M0 : Mem) (T : Nat) (a b d : Int) : Int := cif ((0 ≤ a ∧ a < (T : Int)) ∧ (0 ≤ b ∧ b < (T : Int)) ∧ (0 ≤ d ∧ d < (T : Int)) ∧ a < b ∧ b < d) (cif (eD M0 a.toNat b.toNat ∧ eD M0 b.toNat d.toNat ∧ eD M0 a.toNat d.toNat) (wD M0 a.toNat b.toNat + wD M0 b.toNat d.toNat - wD M0 a.toNat d.toNat) (-1000000002)) (-1000000001)
noncomputable def fNet (M0 : Mem) (c : Nat → Nat) (T : Nat) (w : Int) : Int := if w = 0 then sm T (fun b => sm b (fun a => cif (eD M0 a b) 1 0)) else if w = 1 then sm T (fun g => if 1 < (ml c g T).length then 1 else 0) else if w = 2 then sm T (fun g => if (ml c (c g) T).length = 1 then 1 else 0) else -1
noncomputable def fOff (M0 : Mem) (c : Nat → Nat) (T : Nat) (t p : Int) : Int := cif ((0 ≤ t ∧ t < (T : Int)) ∧ (p = 0 ∨ p = 1)) (if p = 0 then oA M0 c T t.toNat else oB M0 c T t.toNat) (-1000000000000000000)
noncomputable def fBefore (M0 : Mem) (T : Nat) : Int := sm T (fun b => sm b (fun a => sqD M0 a b))
set_option maxRecDepth 100000 in
set_option maxHeartbeats 4000000 in
theorem c_bring (l : Launch) {M0 M : Mem} {T N : Nat} {c : Nat → Nat} (h : IV M0 T N c M) : Cm l yX5_bringClosingUpToDate cX5_bringClosingUpToDate 1 none 5 133 [vR 0] M (fun r M' => r = none ∧ IV M0 T N c M' ∧ CS M0 M' T ∧ CO M0 M' c T T) := by
  refine cmo [some (vR 0)] ?_
  have h8 := h.g.1
  have h5 := h.t5
  have h53 := h.t53
  have h06 := h.cl
  refine ev_aload_n dX5_bringClosingUpToDate_0 rfl ?_
  refine em_getI fX5_48.g dX5_bringClosingUpToDate_1 lay_0 rfl ?_
  refine ev_if_eq 31 dX5_bringClosingUpToDate_4 (by omega) (fun c4 => ?_) (fun c4 => ?_)
  · exact em_vret dX5_bringClosingUpToDate_31 ⟨rfl, h, by rcases h06 with q | q; (exfalso; omega); exact q.2⟩
  · refine ev_aload_n dX5_bringClosingUpToDate_7 rfl ?_
    refine em_getR fX5_26.g dX5_bringClosingUpToDate_8 lay_0 rfl ?_
    refine ev_aload_n dX5_bringClosingUpToDate_11 rfl ?_
    refine em_getR fX5_11.g dX5_bringClosingUpToDate_12 lay_0 rfl ?_
    refine ev_aload_n dX5_bringClosingUpToDate_15 rfl ?_
    refine em_getI fX5_44.g dX5_bringClosingUpToDate_16 lay_0 rfl ?_
    refine ev_aload_n dX5_bringClosingUpToDate_19 rfl ?_
    refine em_getR fX5_19.g dX5_bringClosingUpToDate_20 lay_0 rfl ?_
    rw [h5]
    refine em_V3 (c_close l h.e h.g h.l) mX5_189 dX5_bringClosingUpToDate_23 lay_19 ?_
    rintro r M1 ⟨rfl, k23, s23, o23⟩
    refine ev_aload_n dX5_bringClosingUpToDate_26 rfl ?_
    refine ev_iconst dX5_bringClosingUpToDate_27 ?_
    refine em_putZ fX5_48 dX5_bringClosingUpToDate_28 lay_0 rfl (by omega) ?_
    have kk : ∀ k, k ≠ 0 → (k < 18 ∨ 50 ≤ k) → up2 M1 0 6 0 k = M k := fun k h1 h2 => by rw [up2_row _ _ _ _ h1, k23 k h2]
    have ss : CS M0 (up2 M1 0 6 0) T := s23.of (by rw [up2_row _ _ _ _ (by omega)])
    have oo : CO M0 (up2 M1 0 6 0) c T T := o23.of h8 (fun k h1 h2 => by rw [up2_row _ _ _ _ (by omega)])
    exact em_vret dX5_bringClosingUpToDate_31 ⟨rfl, IV.mk h.g (h.e.of (fun k hk => kk k (by omega) (by omega))) h.u h.l (by rw [up2_ne _ _ _ _ (Or.inr (by omega)), k23 0 (by omega)]; exact h5) (by rw [kk 53 (by omega) (by omega)]; exact h53) h.n6 (by rw [kk 50 (by omega) (by omega)]; exact h.n50) (by rw [kk 53 (by omega) (by omega)]; exact h.n53) (by rw [kk 51 (by omega) (by omega)]; exact h.p51) (by rw [kk 57 (by omega) (by omega)]; exact h.p57) h.pb (Or.inr ⟨by rw [up2_same], ss, oo⟩), ss, oo⟩
set_option maxRecDepth 100000 in
set_option maxHeartbeats 4000000 in
theorem c_before (l : Launch) {M0 M : Mem} {T N : Nat} {c : Nat → Nat} (h : IV M0 T N c M) : Cm l yX5_before cX5_before 1 (some .long) 6 153 [vR 0] M (fun r M' => IV M0 T N c M' ∧ r = some (vL (fBefore M0 T))) := by
  refine cmo [some (vR 0)] ?_
  refine ev_aload_n dX5_before_0 rfl ?_
  refine em_V0 (c_bring l h) mX5_121 dX5_before_1 lay_0 ?_
  rintro r M1 ⟨rfl, h1, hs1, ho1⟩
  refine ev_aload_n dX5_before_4 rfl ?_
  refine em_getR fX5_26.g dX5_before_5 lay_0 rfl ?_
  refine em_getL fX5_137.g dX5_before_8 lay_19 rfl ?_
  exact em_lret dX5_before_11 ⟨h1, by rw [hs1.2]; rfl⟩
set_option maxRecDepth 100000 in
set_option maxHeartbeats 4000000 in
theorem c_net (l : Launch) {M0 M : Mem} {T N : Nat} {c : Nat → Nat} (h : IV M0 T N c M) {x : Int} (hx : i32 x) : Cm l yX5_net cX5_net 2 (some .int) 6 153 [vR 0, vI x] M (fun r M' => IV M0 T N c M' ∧ r = some (vI (fNet M0 c T x))) := by
  refine cmo [some (vR 0), some (vI x)] ?_
  refine ev_aload_n dX5_net_0 rfl ?_
  refine em_V0 (c_bring l h) mX5_121 dX5_net_1 lay_0 ?_
  rintro r M1 ⟨rfl, h1, hs1, ho1⟩
  refine ev_iload_n dX5_net_4 rfl ?_
  by_cases q0 : x = 0
  · subst q0
    refine ev_tabIn 32 dX5_net_5 (by omega) (by omega) (by omega) rfl ?_
    refine ev_aload_n dX5_net_32 rfl ?_
    refine em_getR fX5_26.g dX5_net_33 lay_0 rfl ?_
    refine em_getI fX5_124.g dX5_net_36 lay_19 rfl ?_
    exact em_iret dX5_net_39 ⟨h1, by unfold fNet; rw [if_pos rfl, hs1.1]⟩
  by_cases q1 : x = 1
  · subst q1
    refine ev_tabIn 40 dX5_net_5 (by omega) (by omega) (by omega) rfl ?_
    refine ev_aload_n dX5_net_40 rfl ?_
    refine em_getR fX5_26.g dX5_net_41 lay_0 rfl ?_
    refine em_getI fX5_127.g dX5_net_44 lay_19 rfl ?_
    exact em_iret dX5_net_47 ⟨h1, by unfold fNet; rw [if_neg (by omega), if_pos rfl, ho1.1]⟩
  by_cases q2 : x = 2
  · subst q2
    refine ev_tabIn 48 dX5_net_5 (by omega) (by omega) (by omega) rfl ?_
    refine ev_aload_n dX5_net_48 rfl ?_
    refine em_getR fX5_26.g dX5_net_49 lay_0 rfl ?_
    refine em_getI fX5_130.g dX5_net_52 lay_19 rfl ?_
    exact em_iret dX5_net_55 ⟨h1, by unfold fNet; rw [if_neg (by omega), if_neg (by omega), if_pos rfl, ho1.2.1]⟩
  refine ev_tabOut 56 dX5_net_5 (by omega) (by omega) ?_
  refine ev_iconst dX5_net_56 ?_
  exact em_iret dX5_net_57 ⟨h1, by unfold fNet; rw [if_neg (by omega), if_neg (by omega), if_neg (by omega)]⟩
set_option maxRecDepth 100000 in
set_option maxHeartbeats 4000000 in
theorem c_off (l : Launch) {M0 M : Mem} {T N : Nat} {c : Nat → Nat} (h : IV M0 T N c M) {a x : Int} (ha : i32 a) (hx : i32 x) : Cm l yX5_off cX5_off 3 (some .long) 6 153 [vR 0, vI a, vI x] M (fun r M' => IV M0 T N c M' ∧ r = some (vL (fOff M0 c T a x))) := by
  refine cmo [some (vR 0), some (vI a), some (vI x)] ?_
  have h8 := h.g.1
  have h5 := h.t5
  have h53 := h.t53
  refine ev_aload_n dX5_off_0 rfl ?_
  refine ev_iload_n dX5_off_1 rfl ?_
  refine em_V1 (c_isTrack l (by omega) (by omega)) mX5_69 dX5_off_2 lay_0 ?_
  rintro r M ⟨rfl, z2, rfl, h2⟩
  refine ev_if_eq 15 dX5_off_5 (by omega) (fun c5 => ?_) (fun c5 => ?_)
  · refine ev_ldc2 (-1000000000000000000) kX5_102 dX5_off_15 (by decide) ?_
    exact em_lret dX5_off_18 ⟨h, by unfold fOff; rw [cif_neg (by omega)]⟩
  · refine ev_iload_n dX5_off_8 rfl ?_
    refine em_S1 (c_isPart l _ (by omega)) mX5_84 dX5_off_9 ?_
    rintro r M ⟨rfl, z9, rfl, h9⟩
    refine ev_if_ne 19 dX5_off_12 (by omega) (fun c12 => ?_) (fun c12 => ?_)
    · obtain ⟨t, rfl⟩ : ∃ t : Nat, a = (t : Int) := ⟨a.toNat, by omega⟩
      have ht : t < T := by omega
      refine ev_aload_n dX5_off_19 rfl ?_
      refine em_V0 (c_bring l h) mX5_121 dX5_off_20 lay_0 ?_
      rintro r M1 ⟨rfl, h1, hs1, ho1⟩
      refine ev_aload_n dX5_off_23 rfl ?_
      refine em_getR fX5_26.g dX5_off_24 lay_0 rfl ?_
      refine em_getR fX5_133 dX5_off_27 lay_19 rfl ?_
      refine ev_iload_n dX5_off_30 rfl ?_
      refine en_frc t dX5_off_31 (by omega) (by omega) ?_
      refine ev_iload_n dX5_off_32 rfl ?_
      have hoo := ho1.at h.l ht
      refine em_V1 (c_partOf l (r := 21 + t) (by omega) (lay_frc (i := t) (by omega)) hx) mX5_112 dX5_off_33 (lay_frc (i := t) (by omega)) ?_
      rintro r M2 ⟨rfl, rfl⟩
      exact em_lret dX5_off_36 ⟨h1, by unfold fOff; rw [cif_pos (by omega), hoo.1, hoo.2]; rfl⟩
    · refine ev_ldc2 (-1000000000000000000) kX5_102 dX5_off_15 (by decide) ?_
      exact em_lret dX5_off_18 ⟨h, by unfold fOff; rw [cif_neg (by omega)]⟩
set_option maxRecDepth 100000 in
set_option maxHeartbeats 4000000 in
theorem c_crosses (l : Launch) {M0 M : Mem} {T N : Nat} {c : Nat → Nat} (h : IV M0 T N c M) {a b : Int} (ha : i32 a) (hb : i32 b) : Cm l yX5_crosses cX5_crosses 3 (some .int) 2 43 [vR 0, vI a, vI b] M (fun r M' => IV M0 T N c M' ∧ r = some (vI (fCrosses M0 T a b))) := by
  refine cmo [some (vR 0), some (vI a), some (vI b)] ?_
  have h8 := h.g.1
  have h5 := h.t5
  have h53 := h.t53
  refine ev_aload_n dX5_crosses_0 rfl ?_
  refine ev_iload_n dX5_crosses_1 rfl ?_
  refine ev_iload_n dX5_crosses_2 rfl ?_
  refine em_V2 (c_areTwoTracks l (by omega) (by omega) (by omega)) mX5_80 dX5_crosses_3 lay_0 ?_
  rintro r M ⟨rfl, z3, rfl, h3⟩
  refine ev_if_ne 11 dX5_crosses_6 (by omega) (fun c6 => ?_) (fun c6 => ?_)
  · obtain ⟨i, rfl⟩ : ∃ i : Nat, a = (i : Int) := ⟨a.toNat, by omega⟩
    obtain ⟨j, rfl⟩ : ∃ j : Nat, b = (j : Int) := ⟨b.toNat, by omega⟩
    have hi : i < T := by omega
    have hj : j < T := by omega
    have ei := h.e.1 (2 + 2 * i) (by omega) (by omega)
    have ej := h.e.1 (2 + 2 * j) (by omega) (by omega)
    refine ev_aload_n dX5_crosses_11 rfl ?_
    refine em_getR fX5_19.g dX5_crosses_12 lay_0 rfl ?_
    refine ev_aload_n dX5_crosses_15 rfl ?_
    refine em_getR fX5_11.g dX5_crosses_16 lay_0 rfl ?_
    refine ev_iload_n dX5_crosses_19 rfl ?_
    refine en_trk i dX5_crosses_20 (by omega) (by omega) ?_
    refine ev_aload_n dX5_crosses_21 rfl ?_
    refine em_getR fX5_11.g dX5_crosses_22 lay_0 rfl ?_
    refine ev_iload_n dX5_crosses_25 rfl ?_
    refine en_trk j dX5_crosses_26 (by omega) (by omega) ?_
    refine em_V2 (c_find l (i := i) (j := j) (by omega) (by omega) (h.e.tr (by omega) (h.g.2 i hi).1) (h.e.tr (by omega) (h.g.2 j hj).1)) mX5_89 dX5_crosses_27 lay_18 ?_
    rintro r M1 ⟨rfl, k27, b27, sa27, sb27, is27⟩
    rw [ei, ej] at is27
    have h1 := h.c18 (M' := M1) (fun k q _ => k27 k q)
    refine ev_aload_n dX5_crosses_30 rfl ?_
    refine em_getR fX5_19.g dX5_crosses_31 lay_0 rfl ?_
    refine em_getI fX5_93.g dX5_crosses_34 lay_18 rfl ?_
    refine ev_if_eq 44 dX5_crosses_37 (by omega) (fun c37 => ?_) (fun c37 => ?_)
    · refine ev_iconst dX5_crosses_44 ?_
      exact em_iret dX5_crosses_45 ⟨h1, by unfold fCrosses; rw [cif_pos (by omega)]; show _ = some (vI (cif (cIs (M0 (2 + 2 * i)) (M0 (2 + 2 * j))) 1 0)); rcases is27 with q | q <;> first | (exfalso; omega) | rw [cif_pos q.2] | rw [cif_neg q.2]⟩
    · refine ev_iconst dX5_crosses_40 ?_
      refine ev_goto 45 dX5_crosses_41 ?_
      exact em_iret dX5_crosses_45 ⟨h1, by unfold fCrosses; rw [cif_pos (by omega)]; show _ = some (vI (cif (cIs (M0 (2 + 2 * i)) (M0 (2 + 2 * j))) 1 0)); rcases is27 with q | q <;> first | (exfalso; omega) | rw [cif_pos q.2] | rw [cif_neg q.2]⟩
  · refine ev_iconst dX5_crosses_9 ?_
    exact em_iret dX5_crosses_10 ⟨h, by unfold fCrosses; rw [cif_neg (by omega)]⟩
set_option maxRecDepth 100000 in
set_option maxHeartbeats 4000000 in
theorem c_difference (l : Launch) {M0 M : Mem} {T N : Nat} {c : Nat → Nat} (h : IV M0 T N c M) {a b : Int} (ha : i32 a) (hb : i32 b) : Cm l yX5_difference cX5_difference 3 (some .int) 2 56 [vR 0, vI a, vI b] M (fun r M' => IV M0 T N c M' ∧ r = some (vI (fDiff M0 T a b))) := by
  refine cmo [some (vR 0), some (vI a), some (vI b)] ?_
  have h8 := h.g.1
  have h5 := h.t5
  have h53 := h.t53
  refine ev_aload_n dX5_difference_0 rfl ?_
  refine ev_iload_n dX5_difference_1 rfl ?_
  refine ev_iload_n dX5_difference_2 rfl ?_
  refine em_V2 (c_areTwoTracks l (by omega) (by omega) (by omega)) mX5_80 dX5_difference_3 lay_0 ?_
  rintro r M ⟨rfl, z3, rfl, h3⟩
  refine ev_if_eq 14 dX5_difference_6 (by omega) (fun c6 => ?_) (fun c6 => ?_)
  · refine ev_ldc (-1000000001) kX5_116 dX5_difference_14 (by decide) ?_
    exact em_iret dX5_difference_16 ⟨h, by unfold fDiff; rw [cif_neg (by omega)]⟩
  · refine ev_iload_n dX5_difference_9 rfl ?_
    refine ev_iload_n dX5_difference_10 rfl ?_
    refine ev_icmp_le 17 dX5_difference_11 (by omega) (by omega) (fun c11 => ?_) (fun c11 => ?_)
    · obtain ⟨i, rfl⟩ : ∃ i : Nat, a = (i : Int) := ⟨a.toNat, by omega⟩
      obtain ⟨j, rfl⟩ : ∃ j : Nat, b = (j : Int) := ⟨b.toNat, by omega⟩
      have hi : i < T := by omega
      have hj : j < T := by omega
      refine ev_aload_n dX5_difference_17 rfl ?_
      refine em_getR fX5_19.g dX5_difference_18 lay_0 rfl ?_
      refine ev_aload_n dX5_difference_21 rfl ?_
      refine em_getR fX5_11.g dX5_difference_22 lay_0 rfl ?_
      refine ev_iload_n dX5_difference_25 rfl ?_
      refine en_trk i dX5_difference_26 (by omega) (by omega) ?_
      refine ev_aload_n dX5_difference_27 rfl ?_
      refine em_getR fX5_11.g dX5_difference_28 lay_0 rfl ?_
      refine ev_iload_n dX5_difference_31 rfl ?_
      refine en_trk j dX5_difference_32 (by omega) (by omega) ?_
      refine em_V2 (c_diff l (i := i) (j := j) h.e h.g hi hj) mX5_117 dX5_difference_33 lay_18 ?_
      rintro r M1 ⟨k33, ⟨n33, rfl⟩ | ⟨n33, rfl⟩⟩
      · exact em_iret dX5_difference_36 ⟨h.c18 (fun k q _ => k33 k q), by unfold fDiff; rw [cif_pos (by omega)]; show _ = some (vI (cif (eD M0 i j) (wD M0 i j) (-1000000002))); rw [cif_neg n33]⟩
      · exact em_iret dX5_difference_36 ⟨h.c18 (fun k q _ => k33 k q), by unfold fDiff; rw [cif_pos (by omega)]; show _ = some (vI (cif (eD M0 i j) (wD M0 i j) (-1000000002))); rw [cif_pos n33]⟩
    · refine ev_ldc (-1000000001) kX5_116 dX5_difference_14 (by decide) ?_
      exact em_iret dX5_difference_16 ⟨h, by unfold fDiff; rw [cif_neg (by omega)]⟩
set_option maxRecDepth 100000 in
set_option maxHeartbeats 4000000 in
theorem c_loop (l : Launch) {M0 M : Mem} {T N : Nat} {c : Nat → Nat} (h : IV M0 T N c M) {a b d : Int} (ha : i32 a) (hb : i32 b) (hd : i32 d) : Cm l yX5_loop cX5_loop 7 (some .int) 2 56 [vR 0, vI a, vI b, vI d] M (fun r M' => IV M0 T N c M' ∧ r = some (vI (fLoop M0 T a b d))) := by
  refine cmo [some (vR 0), some (vI a), some (vI b), some (vI d), none, none, none] ?_
  have h8 := h.g.1
  have h5 := h.t5
  have h53 := h.t53
  refine ev_aload_n dX5_loop_0 rfl ?_
  refine ev_iload_n dX5_loop_1 rfl ?_
  refine em_V1 (c_isTrack l (by omega) (by omega)) mX5_69 dX5_loop_2 lay_0 ?_
  rintro r M ⟨rfl, z2, rfl, h2⟩
  refine ev_if_eq 34 dX5_loop_5 (by omega) (fun c5 => ?_) (fun c5 => ?_)
  · refine ev_ldc (-1000000001) kX5_116 dX5_loop_34 (by decide) ?_
    exact em_iret dX5_loop_36 ⟨h, by unfold fLoop; rw [cif_neg (by omega)]⟩
  · refine ev_aload_n dX5_loop_8 rfl ?_
    refine ev_iload_n dX5_loop_9 rfl ?_
    refine em_V1 (c_isTrack l (by omega) (by omega)) mX5_69 dX5_loop_10 lay_0 ?_
    rintro r M ⟨rfl, z10, rfl, h10⟩
    refine ev_if_eq 34 dX5_loop_13 (by omega) (fun c13 => ?_) (fun c13 => ?_)
    · refine ev_ldc (-1000000001) kX5_116 dX5_loop_34 (by decide) ?_
      exact em_iret dX5_loop_36 ⟨h, by unfold fLoop; rw [cif_neg (by omega)]⟩
    · refine ev_aload_n dX5_loop_16 rfl ?_
      refine ev_iload_n dX5_loop_17 rfl ?_
      refine em_V1 (c_isTrack l (by omega) (by omega)) mX5_69 dX5_loop_18 lay_0 ?_
      rintro r M ⟨rfl, z18, rfl, h18⟩
      refine ev_if_eq 34 dX5_loop_21 (by omega) (fun c21 => ?_) (fun c21 => ?_)
      · refine ev_ldc (-1000000001) kX5_116 dX5_loop_34 (by decide) ?_
        exact em_iret dX5_loop_36 ⟨h, by unfold fLoop; rw [cif_neg (by omega)]⟩
      · refine ev_iload_n dX5_loop_24 rfl ?_
        refine ev_iload_n dX5_loop_25 rfl ?_
        refine ev_icmp_ge 34 dX5_loop_26 (by omega) (by omega) (fun c26 => ?_) (fun c26 => ?_)
        · refine ev_ldc (-1000000001) kX5_116 dX5_loop_34 (by decide) ?_
          exact em_iret dX5_loop_36 ⟨h, by unfold fLoop; rw [cif_neg (by omega)]⟩
        · refine ev_iload_n dX5_loop_29 rfl ?_
          refine ev_iload_n dX5_loop_30 rfl ?_
          refine ev_icmp_lt 37 dX5_loop_31 (by omega) (by omega) (fun c31 => ?_) (fun c31 => ?_)
          · obtain ⟨i, rfl⟩ : ∃ i : Nat, a = (i : Int) := ⟨a.toNat, by omega⟩
            have hi : i < T := by omega
            obtain ⟨j, rfl⟩ : ∃ j : Nat, b = (j : Int) := ⟨b.toNat, by omega⟩
            have hj : j < T := by omega
            obtain ⟨m, rfl⟩ : ∃ m : Nat, d = (m : Int) := ⟨d.toNat, by omega⟩
            have hm : m < T := by omega
            have e1 : (fLoop M0 T (i : Int) (j : Int) (m : Int)) = cif (eD M0 i j ∧ eD M0 j m ∧ eD M0 i m) (wD M0 i j + wD M0 j m - wD M0 i m) (-1000000002) := by unfold fLoop; rw [cif_pos (by omega)]; rfl
            rw [e1]
            refine ev_aload_n dX5_loop_37 rfl ?_
            refine em_getR fX5_19.g dX5_loop_38 lay_0 rfl ?_
            refine ev_aload_n dX5_loop_41 rfl ?_
            refine em_getR fX5_11.g dX5_loop_42 lay_0 rfl ?_
            refine ev_iload_n dX5_loop_45 rfl ?_
            refine en_trk i dX5_loop_46 (by omega) (by omega) ?_
            refine ev_aload_n dX5_loop_47 rfl ?_
            refine em_getR fX5_11.g dX5_loop_48 lay_0 rfl ?_
            refine ev_iload_n dX5_loop_51 rfl ?_
            refine en_trk j dX5_loop_52 (by omega) (by omega) ?_
            refine em_V2 (c_diff l (i := i) (j := j) h.e h.g hi hj) mX5_117 dX5_loop_53 lay_18 ?_
            rintro r M1 ⟨k53, ⟨n53, rfl⟩ | ⟨n53, rfl⟩⟩
            · have h1 := h.c18 (M' := M1) (fun k q _ => k53 k q)
              refine ev_istore dX5_loop_56 (by decide) ?_
              refine ev_ls [some (vR _), some (vI _), some (vI _), some (vI _), some (vI _), none, none] rfl ?_
              refine ev_aload_n dX5_loop_58 rfl ?_
              refine em_getR fX5_19.g dX5_loop_59 lay_0 rfl ?_
              refine ev_aload_n dX5_loop_62 rfl ?_
              refine em_getR fX5_11.g dX5_loop_63 lay_0 rfl ?_
              refine ev_iload_n dX5_loop_66 rfl ?_
              refine en_trk j dX5_loop_67 (by omega) (by omega) ?_
              refine ev_aload_n dX5_loop_68 rfl ?_
              refine em_getR fX5_11.g dX5_loop_69 lay_0 rfl ?_
              refine ev_iload_n dX5_loop_72 rfl ?_
              refine en_trk m dX5_loop_73 (by omega) (by omega) ?_
              refine em_V2 (c_diff l (i := j) (j := m) h1.e h.g hj hm) mX5_117 dX5_loop_74 lay_18 ?_
              rintro r M2 ⟨k74, ⟨n74, rfl⟩ | ⟨n74, rfl⟩⟩
              · have h2 := h1.c18 (M' := M2) (fun k q _ => k74 k q)
                refine ev_istore dX5_loop_77 (by decide) ?_
                refine ev_ls [some (vR _), some (vI _), some (vI _), some (vI _), some (vI _), some (vI _), none] rfl ?_
                refine ev_aload_n dX5_loop_79 rfl ?_
                refine em_getR fX5_19.g dX5_loop_80 lay_0 rfl ?_
                refine ev_aload_n dX5_loop_83 rfl ?_
                refine em_getR fX5_11.g dX5_loop_84 lay_0 rfl ?_
                refine ev_iload_n dX5_loop_87 rfl ?_
                refine en_trk i dX5_loop_88 (by omega) (by omega) ?_
                refine ev_aload_n dX5_loop_89 rfl ?_
                refine em_getR fX5_11.g dX5_loop_90 lay_0 rfl ?_
                refine ev_iload_n dX5_loop_93 rfl ?_
                refine en_trk m dX5_loop_94 (by omega) (by omega) ?_
                refine em_V2 (c_diff l (i := i) (j := m) h2.e h.g hi hm) mX5_117 dX5_loop_95 lay_18 ?_
                rintro r M3 ⟨k95, ⟨n95, rfl⟩ | ⟨n95, rfl⟩⟩
                · have h3 := h2.c18 (M' := M3) (fun k q _ => k95 k q)
                  refine ev_istore dX5_loop_98 (by decide) ?_
                  refine ev_ls [some (vR _), some (vI _), some (vI _), some (vI _), some (vI _), some (vI _), some (vI _)] rfl ?_
                  refine ev_iload dX5_loop_100 rfl ?_
                  refine ev_ldc (-1000000002) kX5_144 dX5_loop_102 (by decide) ?_
                  refine ev_icmp_eq 121 dX5_loop_104 (by omega) (by omega) (fun c104 => ?_) (fun c104 => ?_)
                  · refine ev_ldc (-1000000002) kX5_144 dX5_loop_121 (by decide) ?_
                    first | (exfalso; omega) | exact em_iret dX5_loop_123 ⟨h3, by rw [cif_neg (fun q => n53 q.1)]⟩ | exact em_iret dX5_loop_123 ⟨h3, by rw [cif_neg (fun q => n74 q.2.1)]⟩ | exact em_iret dX5_loop_123 ⟨h3, by rw [cif_neg (fun q => n95 q.2.2)]⟩ | exact em_iret dX5_loop_123 ⟨h3, by rw [cif_pos ⟨n53, n74, n95⟩]⟩
                  · refine ev_iload dX5_loop_107 rfl ?_
                    refine ev_ldc (-1000000002) kX5_144 dX5_loop_109 (by decide) ?_
                    refine ev_icmp_eq 121 dX5_loop_111 (by omega) (by omega) (fun c111 => ?_) (fun c111 => ?_)
                    · refine ev_ldc (-1000000002) kX5_144 dX5_loop_121 (by decide) ?_
                      first | (exfalso; omega) | exact em_iret dX5_loop_123 ⟨h3, by rw [cif_neg (fun q => n53 q.1)]⟩ | exact em_iret dX5_loop_123 ⟨h3, by rw [cif_neg (fun q => n74 q.2.1)]⟩ | exact em_iret dX5_loop_123 ⟨h3, by rw [cif_neg (fun q => n95 q.2.2)]⟩ | exact em_iret dX5_loop_123 ⟨h3, by rw [cif_pos ⟨n53, n74, n95⟩]⟩
                    · refine ev_iload dX5_loop_114 rfl ?_
                      refine ev_ldc (-1000000002) kX5_144 dX5_loop_116 (by decide) ?_
                      refine ev_icmp_ne 124 dX5_loop_118 (by omega) (by omega) (fun c118 => ?_) (fun c118 => ?_)
                      · refine ev_iload dX5_loop_124 rfl ?_
                        refine ev_iload dX5_loop_126 rfl ?_
                        refine ev_iadd dX5_loop_128 ?_
                        refine ev_iload dX5_loop_129 rfl ?_
                        refine ev_isub dX5_loop_131 ?_
                        first | (exfalso; omega) | exact em_iret dX5_loop_132 ⟨h3, by rw [cif_neg (fun q => n53 q.1)]⟩ | exact em_iret dX5_loop_132 ⟨h3, by rw [cif_neg (fun q => n74 q.2.1)]⟩ | exact em_iret dX5_loop_132 ⟨h3, by rw [cif_neg (fun q => n95 q.2.2)]⟩ | exact em_iret dX5_loop_132 ⟨h3, by rw [cif_pos ⟨n53, n74, n95⟩]⟩
                      · refine ev_ldc (-1000000002) kX5_144 dX5_loop_121 (by decide) ?_
                        first | (exfalso; omega) | exact em_iret dX5_loop_123 ⟨h3, by rw [cif_neg (fun q => n53 q.1)]⟩ | exact em_iret dX5_loop_123 ⟨h3, by rw [cif_neg (fun q => n74 q.2.1)]⟩ | exact em_iret dX5_loop_123 ⟨h3, by rw [cif_neg (fun q => n95 q.2.2)]⟩ | exact em_iret dX5_loop_123 ⟨h3, by rw [cif_pos ⟨n53, n74, n95⟩]⟩
                · have h3 := h2.c18 (M' := M3) (fun k q _ => k95 k q)
                  have w95 := wD_bd h.g hi hm n95
                  refine ev_istore dX5_loop_98 (by decide) ?_
                  refine ev_ls [some (vR _), some (vI _), some (vI _), some (vI _), some (vI _), some (vI _), some (vI _)] rfl ?_
                  refine ev_iload dX5_loop_100 rfl ?_
                  refine ev_ldc (-1000000002) kX5_144 dX5_loop_102 (by decide) ?_
                  refine ev_icmp_eq 121 dX5_loop_104 (by omega) (by omega) (fun c104 => ?_) (fun c104 => ?_)
                  · refine ev_ldc (-1000000002) kX5_144 dX5_loop_121 (by decide) ?_
                    first | (exfalso; omega) | exact em_iret dX5_loop_123 ⟨h3, by rw [cif_neg (fun q => n53 q.1)]⟩ | exact em_iret dX5_loop_123 ⟨h3, by rw [cif_neg (fun q => n74 q.2.1)]⟩ | exact em_iret dX5_loop_123 ⟨h3, by rw [cif_neg (fun q => n95 q.2.2)]⟩ | exact em_iret dX5_loop_123 ⟨h3, by rw [cif_pos ⟨n53, n74, n95⟩]⟩
                  · refine ev_iload dX5_loop_107 rfl ?_
                    refine ev_ldc (-1000000002) kX5_144 dX5_loop_109 (by decide) ?_
                    refine ev_icmp_eq 121 dX5_loop_111 (by omega) (by omega) (fun c111 => ?_) (fun c111 => ?_)
                    · refine ev_ldc (-1000000002) kX5_144 dX5_loop_121 (by decide) ?_
                      first | (exfalso; omega) | exact em_iret dX5_loop_123 ⟨h3, by rw [cif_neg (fun q => n53 q.1)]⟩ | exact em_iret dX5_loop_123 ⟨h3, by rw [cif_neg (fun q => n74 q.2.1)]⟩ | exact em_iret dX5_loop_123 ⟨h3, by rw [cif_neg (fun q => n95 q.2.2)]⟩ | exact em_iret dX5_loop_123 ⟨h3, by rw [cif_pos ⟨n53, n74, n95⟩]⟩
                    · refine ev_iload dX5_loop_114 rfl ?_
                      refine ev_ldc (-1000000002) kX5_144 dX5_loop_116 (by decide) ?_
                      refine ev_icmp_ne 124 dX5_loop_118 (by omega) (by omega) (fun c118 => ?_) (fun c118 => ?_)
                      · refine ev_iload dX5_loop_124 rfl ?_
                        refine ev_iload dX5_loop_126 rfl ?_
                        refine ev_iadd dX5_loop_128 ?_
                        refine ev_iload dX5_loop_129 rfl ?_
                        refine ev_isub dX5_loop_131 ?_
                        first | (exfalso; omega) | exact em_iret dX5_loop_132 ⟨h3, by rw [cif_neg (fun q => n53 q.1)]⟩ | exact em_iret dX5_loop_132 ⟨h3, by rw [cif_neg (fun q => n74 q.2.1)]⟩ | exact em_iret dX5_loop_132 ⟨h3, by rw [cif_neg (fun q => n95 q.2.2)]⟩ | exact em_iret dX5_loop_132 ⟨h3, by rw [cif_pos ⟨n53, n74, n95⟩]⟩
                      · refine ev_ldc (-1000000002) kX5_144 dX5_loop_121 (by decide) ?_
                        first | (exfalso; omega) | exact em_iret dX5_loop_123 ⟨h3, by rw [cif_neg (fun q => n53 q.1)]⟩ | exact em_iret dX5_loop_123 ⟨h3, by rw [cif_neg (fun q => n74 q.2.1)]⟩ | exact em_iret dX5_loop_123 ⟨h3, by rw [cif_neg (fun q => n95 q.2.2)]⟩ | exact em_iret dX5_loop_123 ⟨h3, by rw [cif_pos ⟨n53, n74, n95⟩]⟩
              · have h2 := h1.c18 (M' := M2) (fun k q _ => k74 k q)
                have w74 := wD_bd h.g hj hm n74
                refine ev_istore dX5_loop_77 (by decide) ?_
                refine ev_ls [some (vR _), some (vI _), some (vI _), some (vI _), some (vI _), some (vI _), none] rfl ?_
                refine ev_aload_n dX5_loop_79 rfl ?_
                refine em_getR fX5_19.g dX5_loop_80 lay_0 rfl ?_
                refine ev_aload_n dX5_loop_83 rfl ?_
                refine em_getR fX5_11.g dX5_loop_84 lay_0 rfl ?_
                refine ev_iload_n dX5_loop_87 rfl ?_
                refine en_trk i dX5_loop_88 (by omega) (by omega) ?_
                refine ev_aload_n dX5_loop_89 rfl ?_
                refine em_getR fX5_11.g dX5_loop_90 lay_0 rfl ?_
                refine ev_iload_n dX5_loop_93 rfl ?_
                refine en_trk m dX5_loop_94 (by omega) (by omega) ?_
                refine em_V2 (c_diff l (i := i) (j := m) h2.e h.g hi hm) mX5_117 dX5_loop_95 lay_18 ?_
                rintro r M3 ⟨k95, ⟨n95, rfl⟩ | ⟨n95, rfl⟩⟩
                · have h3 := h2.c18 (M' := M3) (fun k q _ => k95 k q)
                  refine ev_istore dX5_loop_98 (by decide) ?_
                  refine ev_ls [some (vR _), some (vI _), some (vI _), some (vI _), some (vI _), some (vI _), some (vI _)] rfl ?_
                  refine ev_iload dX5_loop_100 rfl ?_
                  refine ev_ldc (-1000000002) kX5_144 dX5_loop_102 (by decide) ?_
                  refine ev_icmp_eq 121 dX5_loop_104 (by omega) (by omega) (fun c104 => ?_) (fun c104 => ?_)
                  · refine ev_ldc (-1000000002) kX5_144 dX5_loop_121 (by decide) ?_
                    first | (exfalso; omega) | exact em_iret dX5_loop_123 ⟨h3, by rw [cif_neg (fun q => n53 q.1)]⟩ | exact em_iret dX5_loop_123 ⟨h3, by rw [cif_neg (fun q => n74 q.2.1)]⟩ | exact em_iret dX5_loop_123 ⟨h3, by rw [cif_neg (fun q => n95 q.2.2)]⟩ | exact em_iret dX5_loop_123 ⟨h3, by rw [cif_pos ⟨n53, n74, n95⟩]⟩
                  · refine ev_iload dX5_loop_107 rfl ?_
                    refine ev_ldc (-1000000002) kX5_144 dX5_loop_109 (by decide) ?_
                    refine ev_icmp_eq 121 dX5_loop_111 (by omega) (by omega) (fun c111 => ?_) (fun c111 => ?_)
                    · refine ev_ldc (-1000000002) kX5_144 dX5_loop_121 (by decide) ?_
                      first | (exfalso; omega) | exact em_iret dX5_loop_123 ⟨h3, by rw [cif_neg (fun q => n53 q.1)]⟩ | exact em_iret dX5_loop_123 ⟨h3, by rw [cif_neg (fun q => n74 q.2.1)]⟩ | exact em_iret dX5_loop_123 ⟨h3, by rw [cif_neg (fun q => n95 q.2.2)]⟩ | exact em_iret dX5_loop_123 ⟨h3, by rw [cif_pos ⟨n53, n74, n95⟩]⟩
                    · refine ev_iload dX5_loop_114 rfl ?_
                      refine ev_ldc (-1000000002) kX5_144 dX5_loop_116 (by decide) ?_
                      refine ev_icmp_ne 124 dX5_loop_118 (by omega) (by omega) (fun c118 => ?_) (fun c118 => ?_)
                      · refine ev_iload dX5_loop_124 rfl ?_
                        refine ev_iload dX5_loop_126 rfl ?_
                        refine ev_iadd dX5_loop_128 ?_
                        refine ev_iload dX5_loop_129 rfl ?_
                        refine ev_isub dX5_loop_131 ?_
                        first | (exfalso; omega) | exact em_iret dX5_loop_132 ⟨h3, by rw [cif_neg (fun q => n53 q.1)]⟩ | exact em_iret dX5_loop_132 ⟨h3, by rw [cif_neg (fun q => n74 q.2.1)]⟩ | exact em_iret dX5_loop_132 ⟨h3, by rw [cif_neg (fun q => n95 q.2.2)]⟩ | exact em_iret dX5_loop_132 ⟨h3, by rw [cif_pos ⟨n53, n74, n95⟩]⟩
                      · refine ev_ldc (-1000000002) kX5_144 dX5_loop_121 (by decide) ?_
                        first | (exfalso; omega) | exact em_iret dX5_loop_123 ⟨h3, by rw [cif_neg (fun q => n53 q.1)]⟩ | exact em_iret dX5_loop_123 ⟨h3, by rw [cif_neg (fun q => n74 q.2.1)]⟩ | exact em_iret dX5_loop_123 ⟨h3, by rw [cif_neg (fun q => n95 q.2.2)]⟩ | exact em_iret dX5_loop_123 ⟨h3, by rw [cif_pos ⟨n53, n74, n95⟩]⟩
                · have h3 := h2.c18 (M' := M3) (fun k q _ => k95 k q)
                  have w95 := wD_bd h.g hi hm n95
                  refine ev_istore dX5_loop_98 (by decide) ?_
                  refine ev_ls [some (vR _), some (vI _), some (vI _), some (vI _), some (vI _), some (vI _), some (vI _)] rfl ?_
                  refine ev_iload dX5_loop_100 rfl ?_
                  refine ev_ldc (-1000000002) kX5_144 dX5_loop_102 (by decide) ?_
                  refine ev_icmp_eq 121 dX5_loop_104 (by omega) (by omega) (fun c104 => ?_) (fun c104 => ?_)
                  · refine ev_ldc (-1000000002) kX5_144 dX5_loop_121 (by decide) ?_
                    first | (exfalso; omega) | exact em_iret dX5_loop_123 ⟨h3, by rw [cif_neg (fun q => n53 q.1)]⟩ | exact em_iret dX5_loop_123 ⟨h3, by rw [cif_neg (fun q => n74 q.2.1)]⟩ | exact em_iret dX5_loop_123 ⟨h3, by rw [cif_neg (fun q => n95 q.2.2)]⟩ | exact em_iret dX5_loop_123 ⟨h3, by rw [cif_pos ⟨n53, n74, n95⟩]⟩
                  · refine ev_iload dX5_loop_107 rfl ?_
                    refine ev_ldc (-1000000002) kX5_144 dX5_loop_109 (by decide) ?_
                    refine ev_icmp_eq 121 dX5_loop_111 (by omega) (by omega) (fun c111 => ?_) (fun c111 => ?_)
                    · refine ev_ldc (-1000000002) kX5_144 dX5_loop_121 (by decide) ?_
                      first | (exfalso; omega) | exact em_iret dX5_loop_123 ⟨h3, by rw [cif_neg (fun q => n53 q.1)]⟩ | exact em_iret dX5_loop_123 ⟨h3, by rw [cif_neg (fun q => n74 q.2.1)]⟩ | exact em_iret dX5_loop_123 ⟨h3, by rw [cif_neg (fun q => n95 q.2.2)]⟩ | exact em_iret dX5_loop_123 ⟨h3, by rw [cif_pos ⟨n53, n74, n95⟩]⟩
                    · refine ev_iload dX5_loop_114 rfl ?_
                      refine ev_ldc (-1000000002) kX5_144 dX5_loop_116 (by decide) ?_
                      refine ev_icmp_ne 124 dX5_loop_118 (by omega) (by omega) (fun c118 => ?_) (fun c118 => ?_)
                      · refine ev_iload dX5_loop_124 rfl ?_
                        refine ev_iload dX5_loop_126 rfl ?_
                        refine ev_iadd dX5_loop_128 ?_
                        refine ev_iload dX5_loop_129 rfl ?_
                        refine ev_isub dX5_loop_131 ?_
                        first | (exfalso; omega) | exact em_iret dX5_loop_132 ⟨h3, by rw [cif_neg (fun q => n53 q.1)]⟩ | exact em_iret dX5_loop_132 ⟨h3, by rw [cif_neg (fun q => n74 q.2.1)]⟩ | exact em_iret dX5_loop_132 ⟨h3, by rw [cif_neg (fun q => n95 q.2.2)]⟩ | exact em_iret dX5_loop_132 ⟨h3, by rw [cif_pos ⟨n53, n74, n95⟩]⟩
                      · refine ev_ldc (-1000000002) kX5_144 dX5_loop_121 (by decide) ?_
                        first | (exfalso; omega) | exact em_iret dX5_loop_123 ⟨h3, by rw [cif_neg (fun q => n53 q.1)]⟩ | exact em_iret dX5_loop_123 ⟨h3, by rw [cif_neg (fun q => n74 q.2.1)]⟩ | exact em_iret dX5_loop_123 ⟨h3, by rw [cif_neg (fun q => n95 q.2.2)]⟩ | exact em_iret dX5_loop_123 ⟨h3, by rw [cif_pos ⟨n53, n74, n95⟩]⟩
            · have h1 := h.c18 (M' := M1) (fun k q _ => k53 k q)
              have w53 := wD_bd h.g hi hj n53
              refine ev_istore dX5_loop_56 (by decide) ?_
              refine ev_ls [some (vR _), some (vI _), some (vI _), some (vI _), some (vI _), none, none] rfl ?_
              refine ev_aload_n dX5_loop_58 rfl ?_
              refine em_getR fX5_19.g dX5_loop_59 lay_0 rfl ?_
              refine ev_aload_n dX5_loop_62 rfl ?_
              refine em_getR fX5_11.g dX5_loop_63 lay_0 rfl ?_
              refine ev_iload_n dX5_loop_66 rfl ?_
              refine en_trk j dX5_loop_67 (by omega) (by omega) ?_
              refine ev_aload_n dX5_loop_68 rfl ?_
              refine em_getR fX5_11.g dX5_loop_69 lay_0 rfl ?_
              refine ev_iload_n dX5_loop_72 rfl ?_
              refine en_trk m dX5_loop_73 (by omega) (by omega) ?_
              refine em_V2 (c_diff l (i := j) (j := m) h1.e h.g hj hm) mX5_117 dX5_loop_74 lay_18 ?_
              rintro r M2 ⟨k74, ⟨n74, rfl⟩ | ⟨n74, rfl⟩⟩
              · have h2 := h1.c18 (M' := M2) (fun k q _ => k74 k q)
                refine ev_istore dX5_loop_77 (by decide) ?_
                refine ev_ls [some (vR _), some (vI _), some (vI _), some (vI _), some (vI _), some (vI _), none] rfl ?_
                refine ev_aload_n dX5_loop_79 rfl ?_
                refine em_getR fX5_19.g dX5_loop_80 lay_0 rfl ?_
                refine ev_aload_n dX5_loop_83 rfl ?_
                refine em_getR fX5_11.g dX5_loop_84 lay_0 rfl ?_
                refine ev_iload_n dX5_loop_87 rfl ?_
                refine en_trk i dX5_loop_88 (by omega) (by omega) ?_
                refine ev_aload_n dX5_loop_89 rfl ?_
                refine em_getR fX5_11.g dX5_loop_90 lay_0 rfl ?_
                refine ev_iload_n dX5_loop_93 rfl ?_
                refine en_trk m dX5_loop_94 (by omega) (by omega) ?_
                refine em_V2 (c_diff l (i := i) (j := m) h2.e h.g hi hm) mX5_117 dX5_loop_95 lay_18 ?_
                rintro r M3 ⟨k95, ⟨n95, rfl⟩ | ⟨n95, rfl⟩⟩
                · have h3 := h2.c18 (M' := M3) (fun k q _ => k95 k q)
                  refine ev_istore dX5_loop_98 (by decide) ?_
                  refine ev_ls [some (vR _), some (vI _), some (vI _), some (vI _), some (vI _), some (vI _), some (vI _)] rfl ?_
                  refine ev_iload dX5_loop_100 rfl ?_
                  refine ev_ldc (-1000000002) kX5_144 dX5_loop_102 (by decide) ?_
                  refine ev_icmp_eq 121 dX5_loop_104 (by omega) (by omega) (fun c104 => ?_) (fun c104 => ?_)
                  · refine ev_ldc (-1000000002) kX5_144 dX5_loop_121 (by decide) ?_
                    first | (exfalso; omega) | exact em_iret dX5_loop_123 ⟨h3, by rw [cif_neg (fun q => n53 q.1)]⟩ | exact em_iret dX5_loop_123 ⟨h3, by rw [cif_neg (fun q => n74 q.2.1)]⟩ | exact em_iret dX5_loop_123 ⟨h3, by rw [cif_neg (fun q => n95 q.2.2)]⟩ | exact em_iret dX5_loop_123 ⟨h3, by rw [cif_pos ⟨n53, n74, n95⟩]⟩
                  · refine ev_iload dX5_loop_107 rfl ?_
                    refine ev_ldc (-1000000002) kX5_144 dX5_loop_109 (by decide) ?_
                    refine ev_icmp_eq 121 dX5_loop_111 (by omega) (by omega) (fun c111 => ?_) (fun c111 => ?_)
                    · refine ev_ldc (-1000000002) kX5_144 dX5_loop_121 (by decide) ?_
                      first | (exfalso; omega) | exact em_iret dX5_loop_123 ⟨h3, by rw [cif_neg (fun q => n53 q.1)]⟩ | exact em_iret dX5_loop_123 ⟨h3, by rw [cif_neg (fun q => n74 q.2.1)]⟩ | exact em_iret dX5_loop_123 ⟨h3, by rw [cif_neg (fun q => n95 q.2.2)]⟩ | exact em_iret dX5_loop_123 ⟨h3, by rw [cif_pos ⟨n53, n74, n95⟩]⟩
                    · refine ev_iload dX5_loop_114 rfl ?_
                      refine ev_ldc (-1000000002) kX5_144 dX5_loop_116 (by decide) ?_
                      refine ev_icmp_ne 124 dX5_loop_118 (by omega) (by omega) (fun c118 => ?_) (fun c118 => ?_)
                      · refine ev_iload dX5_loop_124 rfl ?_
                        refine ev_iload dX5_loop_126 rfl ?_
                        refine ev_iadd dX5_loop_128 ?_
                        refine ev_iload dX5_loop_129 rfl ?_
                        refine ev_isub dX5_loop_131 ?_
                        first | (exfalso; omega) | exact em_iret dX5_loop_132 ⟨h3, by rw [cif_neg (fun q => n53 q.1)]⟩ | exact em_iret dX5_loop_132 ⟨h3, by rw [cif_neg (fun q => n74 q.2.1)]⟩ | exact em_iret dX5_loop_132 ⟨h3, by rw [cif_neg (fun q => n95 q.2.2)]⟩ | exact em_iret dX5_loop_132 ⟨h3, by rw [cif_pos ⟨n53, n74, n95⟩]⟩
                      · refine ev_ldc (-1000000002) kX5_144 dX5_loop_121 (by decide) ?_
                        first | (exfalso; omega) | exact em_iret dX5_loop_123 ⟨h3, by rw [cif_neg (fun q => n53 q.1)]⟩ | exact em_iret dX5_loop_123 ⟨h3, by rw [cif_neg (fun q => n74 q.2.1)]⟩ | exact em_iret dX5_loop_123 ⟨h3, by rw [cif_neg (fun q => n95 q.2.2)]⟩ | exact em_iret dX5_loop_123 ⟨h3, by rw [cif_pos ⟨n53, n74, n95⟩]⟩
                · have h3 := h2.c18 (M' := M3) (fun k q _ => k95 k q)
                  have w95 := wD_bd h.g hi hm n95
                  refine ev_istore dX5_loop_98 (by decide) ?_
                  refine ev_ls [some (vR _), some (vI _), some (vI _), some (vI _), some (vI _), some (vI _), some (vI _)] rfl ?_
                  refine ev_iload dX5_loop_100 rfl ?_
                  refine ev_ldc (-1000000002) kX5_144 dX5_loop_102 (by decide) ?_
                  refine ev_icmp_eq 121 dX5_loop_104 (by omega) (by omega) (fun c104 => ?_) (fun c104 => ?_)
                  · refine ev_ldc (-1000000002) kX5_144 dX5_loop_121 (by decide) ?_
                    first | (exfalso; omega) | exact em_iret dX5_loop_123 ⟨h3, by rw [cif_neg (fun q => n53 q.1)]⟩ | exact em_iret dX5_loop_123 ⟨h3, by rw [cif_neg (fun q => n74 q.2.1)]⟩ | exact em_iret dX5_loop_123 ⟨h3, by rw [cif_neg (fun q => n95 q.2.2)]⟩ | exact em_iret dX5_loop_123 ⟨h3, by rw [cif_pos ⟨n53, n74, n95⟩]⟩
                  · refine ev_iload dX5_loop_107 rfl ?_
                    refine ev_ldc (-1000000002) kX5_144 dX5_loop_109 (by decide) ?_
                    refine ev_icmp_eq 121 dX5_loop_111 (by omega) (by omega) (fun c111 => ?_) (fun c111 => ?_)
                    · refine ev_ldc (-1000000002) kX5_144 dX5_loop_121 (by decide) ?_
                      first | (exfalso; omega) | exact em_iret dX5_loop_123 ⟨h3, by rw [cif_neg (fun q => n53 q.1)]⟩ | exact em_iret dX5_loop_123 ⟨h3, by rw [cif_neg (fun q => n74 q.2.1)]⟩ | exact em_iret dX5_loop_123 ⟨h3, by rw [cif_neg (fun q => n95 q.2.2)]⟩ | exact em_iret dX5_loop_123 ⟨h3, by rw [cif_pos ⟨n53, n74, n95⟩]⟩
                    · refine ev_iload dX5_loop_114 rfl ?_
                      refine ev_ldc (-1000000002) kX5_144 dX5_loop_116 (by decide) ?_
                      refine ev_icmp_ne 124 dX5_loop_118 (by omega) (by omega) (fun c118 => ?_) (fun c118 => ?_)
                      · refine ev_iload dX5_loop_124 rfl ?_
                        refine ev_iload dX5_loop_126 rfl ?_
                        refine ev_iadd dX5_loop_128 ?_
                        refine ev_iload dX5_loop_129 rfl ?_
                        refine ev_isub dX5_loop_131 ?_
                        first | (exfalso; omega) | exact em_iret dX5_loop_132 ⟨h3, by rw [cif_neg (fun q => n53 q.1)]⟩ | exact em_iret dX5_loop_132 ⟨h3, by rw [cif_neg (fun q => n74 q.2.1)]⟩ | exact em_iret dX5_loop_132 ⟨h3, by rw [cif_neg (fun q => n95 q.2.2)]⟩ | exact em_iret dX5_loop_132 ⟨h3, by rw [cif_pos ⟨n53, n74, n95⟩]⟩
                      · refine ev_ldc (-1000000002) kX5_144 dX5_loop_121 (by decide) ?_
                        first | (exfalso; omega) | exact em_iret dX5_loop_123 ⟨h3, by rw [cif_neg (fun q => n53 q.1)]⟩ | exact em_iret dX5_loop_123 ⟨h3, by rw [cif_neg (fun q => n74 q.2.1)]⟩ | exact em_iret dX5_loop_123 ⟨h3, by rw [cif_neg (fun q => n95 q.2.2)]⟩ | exact em_iret dX5_loop_123 ⟨h3, by rw [cif_pos ⟨n53, n74, n95⟩]⟩
              · have h2 := h1.c18 (M' := M2) (fun k q _ => k74 k q)
                have w74 := wD_bd h.g hj hm n74
                refine ev_istore dX5_loop_77 (by decide) ?_
                refine ev_ls [some (vR _), some (vI _), some (vI _), some (vI _), some (vI _), some (vI _), none] rfl ?_
                refine ev_aload_n dX5_loop_79 rfl ?_
                refine em_getR fX5_19.g dX5_loop_80 lay_0 rfl ?_
                refine ev_aload_n dX5_loop_83 rfl ?_
                refine em_getR fX5_11.g dX5_loop_84 lay_0 rfl ?_
                refine ev_iload_n dX5_loop_87 rfl ?_
                refine en_trk i dX5_loop_88 (by omega) (by omega) ?_
                refine ev_aload_n dX5_loop_89 rfl ?_
                refine em_getR fX5_11.g dX5_loop_90 lay_0 rfl ?_
                refine ev_iload_n dX5_loop_93 rfl ?_
                refine en_trk m dX5_loop_94 (by omega) (by omega) ?_
                refine em_V2 (c_diff l (i := i) (j := m) h2.e h.g hi hm) mX5_117 dX5_loop_95 lay_18 ?_
                rintro r M3 ⟨k95, ⟨n95, rfl⟩ | ⟨n95, rfl⟩⟩
                · have h3 := h2.c18 (M' := M3) (fun k q _ => k95 k q)
                  refine ev_istore dX5_loop_98 (by decide) ?_
                  refine ev_ls [some (vR _), some (vI _), some (vI _), some (vI _), some (vI _), some (vI _), some (vI _)] rfl ?_
                  refine ev_iload dX5_loop_100 rfl ?_
                  refine ev_ldc (-1000000002) kX5_144 dX5_loop_102 (by decide) ?_
                  refine ev_icmp_eq 121 dX5_loop_104 (by omega) (by omega) (fun c104 => ?_) (fun c104 => ?_)
                  · refine ev_ldc (-1000000002) kX5_144 dX5_loop_121 (by decide) ?_
                    first | (exfalso; omega) | exact em_iret dX5_loop_123 ⟨h3, by rw [cif_neg (fun q => n53 q.1)]⟩ | exact em_iret dX5_loop_123 ⟨h3, by rw [cif_neg (fun q => n74 q.2.1)]⟩ | exact em_iret dX5_loop_123 ⟨h3, by rw [cif_neg (fun q => n95 q.2.2)]⟩ | exact em_iret dX5_loop_123 ⟨h3, by rw [cif_pos ⟨n53, n74, n95⟩]⟩
                  · refine ev_iload dX5_loop_107 rfl ?_
                    refine ev_ldc (-1000000002) kX5_144 dX5_loop_109 (by decide) ?_
                    refine ev_icmp_eq 121 dX5_loop_111 (by omega) (by omega) (fun c111 => ?_) (fun c111 => ?_)
                    · refine ev_ldc (-1000000002) kX5_144 dX5_loop_121 (by decide) ?_
                      first | (exfalso; omega) | exact em_iret dX5_loop_123 ⟨h3, by rw [cif_neg (fun q => n53 q.1)]⟩ | exact em_iret dX5_loop_123 ⟨h3, by rw [cif_neg (fun q => n74 q.2.1)]⟩ | exact em_iret dX5_loop_123 ⟨h3, by rw [cif_neg (fun q => n95 q.2.2)]⟩ | exact em_iret dX5_loop_123 ⟨h3, by rw [cif_pos ⟨n53, n74, n95⟩]⟩
                    · refine ev_iload dX5_loop_114 rfl ?_
                      refine ev_ldc (-1000000002) kX5_144 dX5_loop_116 (by decide) ?_
                      refine ev_icmp_ne 124 dX5_loop_118 (by omega) (by omega) (fun c118 => ?_) (fun c118 => ?_)
                      · refine ev_iload dX5_loop_124 rfl ?_
                        refine ev_iload dX5_loop_126 rfl ?_
                        refine ev_iadd dX5_loop_128 ?_
                        refine ev_iload dX5_loop_129 rfl ?_
                        refine ev_isub dX5_loop_131 ?_
                        first | (exfalso; omega) | exact em_iret dX5_loop_132 ⟨h3, by rw [cif_neg (fun q => n53 q.1)]⟩ | exact em_iret dX5_loop_132 ⟨h3, by rw [cif_neg (fun q => n74 q.2.1)]⟩ | exact em_iret dX5_loop_132 ⟨h3, by rw [cif_neg (fun q => n95 q.2.2)]⟩ | exact em_iret dX5_loop_132 ⟨h3, by rw [cif_pos ⟨n53, n74, n95⟩]⟩
                      · refine ev_ldc (-1000000002) kX5_144 dX5_loop_121 (by decide) ?_
                        first | (exfalso; omega) | exact em_iret dX5_loop_123 ⟨h3, by rw [cif_neg (fun q => n53 q.1)]⟩ | exact em_iret dX5_loop_123 ⟨h3, by rw [cif_neg (fun q => n74 q.2.1)]⟩ | exact em_iret dX5_loop_123 ⟨h3, by rw [cif_neg (fun q => n95 q.2.2)]⟩ | exact em_iret dX5_loop_123 ⟨h3, by rw [cif_pos ⟨n53, n74, n95⟩]⟩
                · have h3 := h2.c18 (M' := M3) (fun k q _ => k95 k q)
                  have w95 := wD_bd h.g hi hm n95
                  refine ev_istore dX5_loop_98 (by decide) ?_
                  refine ev_ls [some (vR _), some (vI _), some (vI _), some (vI _), some (vI _), some (vI _), some (vI _)] rfl ?_
                  refine ev_iload dX5_loop_100 rfl ?_
                  refine ev_ldc (-1000000002) kX5_144 dX5_loop_102 (by decide) ?_
                  refine ev_icmp_eq 121 dX5_loop_104 (by omega) (by omega) (fun c104 => ?_) (fun c104 => ?_)
                  · refine ev_ldc (-1000000002) kX5_144 dX5_loop_121 (by decide) ?_
                    first | (exfalso; omega) | exact em_iret dX5_loop_123 ⟨h3, by rw [cif_neg (fun q => n53 q.1)]⟩ | exact em_iret dX5_loop_123 ⟨h3, by rw [cif_neg (fun q => n74 q.2.1)]⟩ | exact em_iret dX5_loop_123 ⟨h3, by rw [cif_neg (fun q => n95 q.2.2)]⟩ | exact em_iret dX5_loop_123 ⟨h3, by rw [cif_pos ⟨n53, n74, n95⟩]⟩
                  · refine ev_iload dX5_loop_107 rfl ?_
                    refine ev_ldc (-1000000002) kX5_144 dX5_loop_109 (by decide) ?_
                    refine ev_icmp_eq 121 dX5_loop_111 (by omega) (by omega) (fun c111 => ?_) (fun c111 => ?_)
                    · refine ev_ldc (-1000000002) kX5_144 dX5_loop_121 (by decide) ?_
                      first | (exfalso; omega) | exact em_iret dX5_loop_123 ⟨h3, by rw [cif_neg (fun q => n53 q.1)]⟩ | exact em_iret dX5_loop_123 ⟨h3, by rw [cif_neg (fun q => n74 q.2.1)]⟩ | exact em_iret dX5_loop_123 ⟨h3, by rw [cif_neg (fun q => n95 q.2.2)]⟩ | exact em_iret dX5_loop_123 ⟨h3, by rw [cif_pos ⟨n53, n74, n95⟩]⟩
                    · refine ev_iload dX5_loop_114 rfl ?_
                      refine ev_ldc (-1000000002) kX5_144 dX5_loop_116 (by decide) ?_
                      refine ev_icmp_ne 124 dX5_loop_118 (by omega) (by omega) (fun c118 => ?_) (fun c118 => ?_)
                      · refine ev_iload dX5_loop_124 rfl ?_
                        refine ev_iload dX5_loop_126 rfl ?_
                        refine ev_iadd dX5_loop_128 ?_
                        refine ev_iload dX5_loop_129 rfl ?_
                        refine ev_isub dX5_loop_131 ?_
                        first | (exfalso; omega) | exact em_iret dX5_loop_132 ⟨h3, by rw [cif_neg (fun q => n53 q.1)]⟩ | exact em_iret dX5_loop_132 ⟨h3, by rw [cif_neg (fun q => n74 q.2.1)]⟩ | exact em_iret dX5_loop_132 ⟨h3, by rw [cif_neg (fun q => n95 q.2.2)]⟩ | exact em_iret dX5_loop_132 ⟨h3, by rw [cif_pos ⟨n53, n74, n95⟩]⟩
                      · refine ev_ldc (-1000000002) kX5_144 dX5_loop_121 (by decide) ?_
                        first | (exfalso; omega) | exact em_iret dX5_loop_123 ⟨h3, by rw [cif_neg (fun q => n53 q.1)]⟩ | exact em_iret dX5_loop_123 ⟨h3, by rw [cif_neg (fun q => n74 q.2.1)]⟩ | exact em_iret dX5_loop_123 ⟨h3, by rw [cif_neg (fun q => n95 q.2.2)]⟩ | exact em_iret dX5_loop_123 ⟨h3, by rw [cif_pos ⟨n53, n74, n95⟩]⟩
          · refine ev_ldc (-1000000001) kX5_116 dX5_loop_34 (by decide) ?_
            exact em_iret dX5_loop_36 ⟨h, by unfold fLoop; rw [cif_neg (by omega)]⟩
