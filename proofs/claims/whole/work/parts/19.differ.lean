/-- the tracks' rows, in both objects, are as at the start -/
def EN (M0 M : Mem) : Prop := (∀ k, 2 ≤ k → k < 18 → M k = M0 k) ∧ M 54 = M0 54 ∧ M 55 = M0 55 ∧ M 56 = M0 56
def eD (M : Mem) (a b : Nat) : Prop := dOK (M (2 + 2 * a)) (M (2 + 2 * b)) (M (2 + 2 * a + 1)) (M (2 + 2 * b + 1))
def wD (M : Mem) (a b : Nat) : Int := dV (M (2 + 2 * a)) (M (2 + 2 * b)) (M (2 + 2 * a + 1)) (M (2 + 2 * b + 1))
theorem EN.rf (M : Mem) : EN M M := ⟨fun _ _ _ => rfl, rfl, rfl, rfl⟩
theorem EN.tr {M0 M : Mem} (h : EN M0 M) {t : Nat} (ht : t < 8) (hT : TR M0 t) : TR M t := hT.of (h.1 _ (by omega) (by omega)) (h.1 _ (by omega) (by omega))
theorem EN.lk {M0 M : Mem} (h : EN M0 M) {t : Nat} (ht : t < 8) (hL : LK M0 t) : LK M t := by
  unfold LK at *
  rw [h.2.1, h.2.2.1, h.2.2.2, h.1 (2 + 2 * t) (by omega) (by omega), h.1 (2 + 2 * t + 1) (by omega) (by omega)]
  exact hL
theorem EN.e {M0 M : Mem} (h : EN M0 M) {a b : Nat} (ha : a < 8) (hb : b < 8) : eD M a b = eD M0 a b := by
  unfold eD
  rw [h.1 (2 + 2 * a) (by omega) (by omega), h.1 (2 + 2 * a + 1) (by omega) (by omega), h.1 (2 + 2 * b) (by omega) (by omega), h.1 (2 + 2 * b + 1) (by omega) (by omega)]
theorem EN.w {M0 M : Mem} (h : EN M0 M) {a b : Nat} (ha : a < 8) (hb : b < 8) : wD M a b = wD M0 a b := by
  unfold wD
  rw [h.1 (2 + 2 * a) (by omega) (by omega), h.1 (2 + 2 * a + 1) (by omega) (by omega), h.1 (2 + 2 * b) (by omega) (by omega), h.1 (2 + 2 * b + 1) (by omega) (by omega)]
theorem EN.of {M0 M M' : Mem} (h : EN M0 M) (hk : ∀ k, ((2 ≤ k ∧ k < 18) ∨ (54 ≤ k ∧ k < 57)) → M' k = M k) : EN M0 M' :=
  ⟨fun k h1 h2 => (hk k (Or.inl ⟨h1, h2⟩)).trans (h.1 k h1 h2), (hk 54 (by omega)).trans h.2.1, (hk 55 (by omega)).trans h.2.2.1, (hk 56 (by omega)).trans h.2.2.2⟩
/-- the tracks in their ranges and alike in both objects -/
def GT (M : Mem) (T : Nat) : Prop := T ≤ 8 ∧ ∀ t, t < T → TR M t ∧ LK M t
theorem wD_bd {M : Mem} {T a b : Nat} (hG : GT M T) (ha : a < T) (hb : b < T) (he : eD M a b) : -200000 ≤ wD M a b ∧ wD M a b ≤ 200000 :=
  dV_bd (hG.2 a ha).1.2.2.2.2.2.2.2 (hG.2 b hb).1.2.2.2.2.2.2.2 he (cBe_bd (hG.2 a ha).1 (hG.2 b hb).1).1
theorem hV_big {H : Nat → Int} {sh be : Int} (hH : hOK H) (hb : 0 < be) (h0 : 0 ≤ sh) (h1 : sh ≤ be) : -(200000 * be) ≤ hV H sh be ∧ hV H sh be ≤ 200000 * be := by
  obtain ⟨-, -, -, f4, f5, f6, f7⟩ := h_facts hb h0 h1
  have ha := hH (hI sh be) (by omega)
  by_cases hr : hR sh be = 0
  · rw [hV_0 hr]
    have u1 := Int.mul_le_mul_of_nonneg_right (show H (hI sh be) ≤ 200000 by omega) (show (0 : Int) ≤ be by omega)
    have u2 := Int.mul_le_mul_of_nonneg_right (show -200000 ≤ H (hI sh be) by omega) (show (0 : Int) ≤ be by omega)
    omega
  · have hb2 := hH (hI sh be + 1) (by omega)
    unfold hV
    rw [if_neg hr]
    have u1 := Int.mul_le_mul_of_nonneg_right (show H (hI sh be) ≤ 200000 by omega) (show (0 : Int) ≤ be - hR sh be by omega)
    have u2 := Int.mul_le_mul_of_nonneg_right (show -200000 ≤ H (hI sh be) by omega) (show (0 : Int) ≤ be - hR sh be by omega)
    have u3 := Int.mul_le_mul_of_nonneg_right (show H (hI sh be + 1) ≤ 200000 by omega) f4
    have u4 := Int.mul_le_mul_of_nonneg_right (show -200000 ≤ H (hI sh be + 1) by omega) f4
    omega
set_option maxRecDepth 100000 in
set_option maxHeartbeats 4000000 in
theorem d_differ0 (l : Launch) {M : Mem} {i j : Nat} (hi : i < 8) (hj : j < 8) (hA : TR M i) (hB : TR M j) (hLA : LK M i) (hLB : LK M j) : Cm l yX6_differ cX6_differ 6 (some .boolean) 2 59 [vR 53, vI (i : Int), vI (j : Int)] M (fun r M' => (∀ k, k ≠ 53 → M' k = M k) ∧ (∀ f, f ≠ 6 → f ≠ 7 → f ≠ 8 → f ≠ 9 → f ≠ 10 → M' 53 f = M 53 f) ∧ ∃ z : Int, r = some (vI z) ∧ ((z = 0 ∧ ¬ dOK (M (2 + 2 * i)) (M (2 + 2 * j)) (M (2 + 2 * i + 1)) (M (2 + 2 * j + 1))) ∨ (z = 1 ∧ dOK (M (2 + 2 * i)) (M (2 + 2 * j)) (M (2 + 2 * i + 1)) (M (2 + 2 * j + 1)) ∧ M' 53 10 = dV (M (2 + 2 * i)) (M (2 + 2 * j)) (M (2 + 2 * i + 1)) (M (2 + 2 * j + 1))))) := by
  refine cmo [some (vR 53), some (vI (i : Int)), some (vI (j : Int)), none, none, none] ?_
  obtain ⟨-, -, -, -, -, -, a6, a7⟩ := id hA
  obtain ⟨-, -, -, -, -, -, b6, b7⟩ := id hB
  have u6 := hLA.2.2.2.2.2.2.1
  have v6 := hLB.2.2.2.2.2.2.1
  have hbe := cBe_bd hA hB
  refine ev_aload_n dX6_differ_0 rfl ?_
  refine em_getR fX6_16.g dX6_differ_1 lay_53 rfl ?_
  refine ev_iload_n dX6_differ_4 rfl ?_
  refine en_zald i dX6_differ_5 lay_56 (by omega) (by omega) ?_
  refine ev_if_ne 39 dX6_differ_6 (by omega) (fun c6 => ?_) (fun c6 => ?_)
  · refine ev_iconst dX6_differ_39 ?_
    first | exact em_zret dX6_differ_40 (by omega) ⟨kk, kf, _, rfl, Or.inl ⟨rfl, nope⟩⟩ | exact em_zret dX6_differ_40 (by omega) ⟨fun _ _ => rfl, fun _ _ _ _ _ _ => rfl, _, rfl, Or.inl ⟨rfl, fun q => by have := q.1; have := q.2.1; omega⟩⟩
  · refine ev_aload_n dX6_differ_9 rfl ?_
    refine em_getR fX6_16.g dX6_differ_10 lay_53 rfl ?_
    refine ev_iload_n dX6_differ_13 rfl ?_
    refine en_zald j dX6_differ_14 lay_56 (by omega) (by omega) ?_
    refine ev_if_ne 39 dX6_differ_15 (by omega) (fun c15 => ?_) (fun c15 => ?_)
    · refine ev_iconst dX6_differ_39 ?_
      first | exact em_zret dX6_differ_40 (by omega) ⟨kk, kf, _, rfl, Or.inl ⟨rfl, nope⟩⟩ | exact em_zret dX6_differ_40 (by omega) ⟨fun _ _ => rfl, fun _ _ _ _ _ _ => rfl, _, rfl, Or.inl ⟨rfl, fun q => by have := q.1; have := q.2.1; omega⟩⟩
    · refine ev_aload_n dX6_differ_18 rfl ?_
      refine ev_iload_n dX6_differ_19 rfl ?_
      refine ev_iload_n dX6_differ_20 rfl ?_
      refine em_V2 (d_meet l hi hj hA hB hLA hLB) mX6_92 dX6_differ_21 lay_53 ?_
      rintro r M1 ⟨k21, f21, g1, g2, g3, z21, rfl, h21⟩
      have w0 : 0 ≤ M1 53 6 ∧ M1 53 6 ≤ 80000 := by rw [g1]; exact hbe
      have kk := k21
      have kf : ∀ f, f ≠ 6 → f ≠ 7 → f ≠ 8 → f ≠ 9 → f ≠ 10 → M1 53 f = M 53 f := fun f h6 h7 h8 _ _ => f21 f h6 h7 h8
      have hA2 : TR M1 i := hA.of53 hi k21
      have hB2 : TR M1 j := hB.of53 hj k21
      have hL2 : LK M1 i := hLA.of hi k21
      have hM2 : LK M1 j := hLB.of hj k21
      refine ev_if_eq 39 dX6_differ_24 (by omega) (fun c24 => ?_) (fun c24 => ?_)
      · have nope : ¬ dOK (M (2 + 2 * i)) (M (2 + 2 * j)) (M (2 + 2 * i + 1)) (M (2 + 2 * j + 1)) := fun q => by rcases h21 with h | h; exact h.2 q.2.2.1; omega
        refine ev_iconst dX6_differ_39 ?_
        first | exact em_zret dX6_differ_40 (by omega) ⟨kk, kf, _, rfl, Or.inl ⟨rfl, nope⟩⟩ | exact em_zret dX6_differ_40 (by omega) ⟨fun _ _ => rfl, fun _ _ _ _ _ _ => rfl, _, rfl, Or.inl ⟨rfl, fun q => by have := q.1; have := q.2.1; omega⟩⟩
      · have hcis : cIs (M (2 + 2 * i)) (M (2 + 2 * j)) := by rcases h21 with h | h; omega; exact h.2
        obtain ⟨z0, z1, z2, z3, z4⟩ := id hcis
        refine ev_aload_n dX6_differ_27 rfl ?_
        refine ev_iload_n dX6_differ_28 rfl ?_
        refine ev_aload_n dX6_differ_29 rfl ?_
        refine em_getL fX6_73.g dX6_differ_30 lay_53 rfl ?_
        refine em_V2 (d_hasHeight l hi hA2 hL2 (by omega) (by omega) (by omega) (by omega)) mX6_105 dX6_differ_33 lay_53 ?_
        rintro r M2 ⟨hm33, z33, rfl, h33⟩
        have kk3 : ∀ k, k ≠ 53 → M2 k = M k := fun k hk => by rw [hm33, up2_row _ _ _ _ hk, k21 k hk]
        have kf3 : ∀ f, f ≠ 6 → f ≠ 7 → f ≠ 8 → f ≠ 9 → f ≠ 10 → M2 53 f = M 53 f := fun f h6 h7 h8 h9 h10 => by rw [hm33, up2_ne _ _ _ _ (Or.inr h9), f21 f h6 h7 h8]
        have e2 : M1 (2 + 2 * i + 1) = (M (2 + 2 * i + 1)) := k21 _ (by omega)
        rw [e2, g2, g1] at h33
        have gh : M2 53 9 = hV (M (2 + 2 * i + 1)) (cSA (M (2 + 2 * i)) (M (2 + 2 * j))) (cBe (M (2 + 2 * i)) (M (2 + 2 * j))) := by rw [hm33, up2_same, e2, g2, g1]
        have g6 : M2 53 6 = cBe (M (2 + 2 * i)) (M (2 + 2 * j)) := by rw [hm33, up2_ne _ _ _ _ (Or.inr (by omega)), g1]
        have g8 : M2 53 8 = cSB (M (2 + 2 * i)) (M (2 + 2 * j)) := by rw [hm33, up2_ne _ _ _ _ (Or.inr (by omega)), g3]
        refine ev_if_ne 41 dX6_differ_36 (by omega) (fun c36 => ?_) (fun c36 => ?_)
        · have hasA : hasH (M (2 + 2 * i + 1)) (cSA (M (2 + 2 * i)) (M (2 + 2 * j))) (cBe (M (2 + 2 * i)) (M (2 + 2 * j))) := by rcases h33 with h | h; omega; exact h.2
          have hB3 : TR M2 j := hB.of53 hj kk3
          have hM3 : LK M2 j := hLB.of hj kk3
          clear kk kf
          refine ev_aload_n dX6_differ_41 rfl ?_
          refine em_getL fX6_79.g dX6_differ_42 lay_53 rfl ?_
          refine ev_lstore_n dX6_differ_45 (by decide) ?_
          refine ev_ls [some (vR _), some (vI _), some (vI _), some (vL _), none, none] rfl ?_
          refine ev_aload_n dX6_differ_46 rfl ?_
          refine ev_iload_n dX6_differ_47 rfl ?_
          refine ev_aload_n dX6_differ_48 rfl ?_
          refine em_getL fX6_76.g dX6_differ_49 lay_53 rfl ?_
          refine em_V2 (d_hasHeight l hj hB3 hM3 (by omega) (by omega) (by omega) (by omega)) mX6_105 dX6_differ_52 lay_53 ?_
          rintro r M3 ⟨hm52, z52, rfl, h52⟩
          have kk2' : ∀ k, k ≠ 53 → M3 k = M k := fun k hk => by rw [hm52, up2_row _ _ _ _ hk, kk3 k hk]
          have kf2' : ∀ f, f ≠ 6 → f ≠ 7 → f ≠ 8 → f ≠ 9 → f ≠ 10 → M3 53 f = M 53 f := fun f h6 h7 h8 h9 h10 => by rw [hm52, up2_ne _ _ _ _ (Or.inr h9), kf3 f h6 h7 h8 h9 h10]
          have e4' : M2 (2 + 2 * j + 1) = (M (2 + 2 * j + 1)) := kk3 _ (by omega)
          have gB' := g8
          have g6' := g6
          have gh2 : M3 53 9 = hV (M (2 + 2 * j + 1)) (cSB (M (2 + 2 * i)) (M (2 + 2 * j))) (cBe (M (2 + 2 * i)) (M (2 + 2 * j))) := by rw [hm52, up2_same, e4', g8, g6]
          have g62 : M3 53 6 = cBe (M (2 + 2 * i)) (M (2 + 2 * j)) := by rw [hm52, up2_ne _ _ _ _ (Or.inr (by omega)), g6]
          have q1 := hV_bd a7 (by omega) (by omega) (by omega) hasA
          have q2 := hV_big b7 (show 0 < cBe (M (2 + 2 * i)) (M (2 + 2 * j)) by omega) z3 z4
          refine ev_istore dX6_differ_55 (by decide) ?_
          refine ev_ls [some (vR _), some (vI _), some (vI _), some (vL _), none, some (vI _)] rfl ?_
          refine ev_aload_n dX6_differ_57 rfl ?_
          refine ev_ldc2 (10) kX6_109 dX6_differ_58 (by decide) ?_
          refine ev_lload_n dX6_differ_61 rfl ?_
          refine ev_aload_n dX6_differ_62 rfl ?_
          refine em_getL fX6_79.g dX6_differ_63 lay_53 rfl ?_
          refine ev_lsub dX6_differ_66 ?_
          refine ev_lmul dX6_differ_67 ?_
          refine ev_aload_n dX6_differ_68 rfl ?_
          refine em_getL fX6_69.g dX6_differ_69 lay_53 rfl ?_
          rw [gh, gh2, g62]
          refine em_S2 (d_down l _ (by omega) (by omega)) mX6_111 dX6_differ_72 ?_
          rintro r M3 ⟨rfl, rfl⟩
          refine em_putL fX6_114 dX6_differ_75 lay_53 rfl ?_
          refine ev_mem (fun M4 hM4 => ?_)
          have kk2 : ∀ k, k ≠ 53 → M4 k = M k := fun k hk => by rw [hM4, up2_row _ _ _ _ hk, kk2' k hk]
          have kf2 : ∀ f, f ≠ 6 → f ≠ 7 → f ≠ 8 → f ≠ 9 → f ≠ 10 → M4 53 f = M 53 f := fun f h6 h7 h8 h9 h10 => by rw [hM4, up2_ne _ _ _ _ (Or.inr h10), kf2' f h6 h7 h8 h9 h10]
          have g10 : M4 53 10 = dV (M (2 + 2 * i)) (M (2 + 2 * j)) (M (2 + 2 * i + 1)) (M (2 + 2 * j + 1)) := by rw [hM4, up2_same]; rfl
          refine ev_iload dX6_differ_78 rfl ?_
          exact em_zret dX6_differ_80 (by omega) ⟨kk2, kf2, _, rfl, by rcases h52 with h | h; exact Or.inl ⟨h.1, fun q => h.2 (by rw [e4', gB', g6']; exact q.2.2.2.2)⟩; exact Or.inr ⟨h.1, ⟨by omega, by omega, hcis, hasA, by have := h.2; rw [e4', gB', g6'] at this; exact this⟩, g10⟩⟩
        · have nope : ¬ dOK (M (2 + 2 * i)) (M (2 + 2 * j)) (M (2 + 2 * i + 1)) (M (2 + 2 * j + 1)) := fun q => by rcases h33 with h | h; exact h.2 q.2.2.2.1; omega
          replace kk := kk3
          replace kf := kf3
          refine ev_iconst dX6_differ_39 ?_
          first | exact em_zret dX6_differ_40 (by omega) ⟨kk, kf, _, rfl, Or.inl ⟨rfl, nope⟩⟩ | exact em_zret dX6_differ_40 (by omega) ⟨fun _ _ => rfl, fun _ _ _ _ _ _ => rfl, _, rfl, Or.inl ⟨rfl, fun q => by have := q.1; have := q.2.1; omega⟩⟩
theorem d_differ (l : Launch) {M0 M : Mem} {T i j : Nat} (hE : EN M0 M) (hG : GT M0 T) (hi : i < T) (hj : j < T) : Cm l yX6_differ cX6_differ 6 (some .boolean) 2 59 [vR 53, vI (i : Int), vI (j : Int)] M (fun r M' => (∀ k, k ≠ 53 → M' k = M k) ∧ (∀ f, f ≠ 6 → f ≠ 7 → f ≠ 8 → f ≠ 9 → f ≠ 10 → M' 53 f = M 53 f) ∧ EN M0 M' ∧ ∃ z : Int, r = some (vI z) ∧ ((z = 0 ∧ ¬ eD M0 i j) ∨ (z = 1 ∧ eD M0 i j ∧ M' 53 10 = wD M0 i j))) := by
  have h8 := hG.1
  refine cm_imp ?_ (d_differ0 l (by omega) (by omega) (hE.tr (by omega) (hG.2 i hi).1) (hE.tr (by omega) (hG.2 j hj).1) (hE.lk (by omega) (hG.2 i hi).2) (hE.lk (by omega) (hG.2 j hj).2))
  rintro r M' ⟨h1, h2, z, h3, h4⟩
  refine ⟨h1, h2, hE.of (fun k hk => h1 k (by omega)), z, h3, ?_⟩
  rw [← hE.e (a := i) (b := j) (by omega) (by omega), ← hE.w (a := i) (b := j) (by omega) (by omega)]
  exact h4
