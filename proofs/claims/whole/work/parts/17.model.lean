/-- the model's rows of a track are the class's -/
def LK (M : Mem) (t : Nat) : Prop := M 54 (6 * t) = M (2 + 2 * t) 0 ∧ M 54 (6 * t + 1) = M (2 + 2 * t) 1 ∧ M 54 (6 * t + 2) = M (2 + 2 * t) 0 + M (2 + 2 * t) 3 ∧ M 54 (6 * t + 3) = M (2 + 2 * t) 1 + M (2 + 2 * t) 4 ∧ M 54 (6 * t + 4) = M (2 + 2 * t) 2 ∧ M 54 (6 * t + 5) = M (2 + 2 * t) 2 + M (2 + 2 * t) 5 ∧ M 56 t = M (2 + 2 * t) 6 ∧ ∀ i, i < 9 → M 55 (9 * t + i) = M (2 + 2 * t + 1) i
theorem LK.of {M M' : Mem} {t : Nat} (h : LK M t) (ht : t < 8) (hk : ∀ k, k ≠ 53 → M' k = M k) : LK M' t := by
  unfold LK at *
  rw [hk 54 (by omega), hk 55 (by omega), hk 56 (by omega), hk (2 + 2 * t) (by omega), hk (2 + 2 * t + 1) (by omega)]
  exact h
theorem TR.of53 {M M' : Mem} {t : Nat} (h : TR M t) (ht : t < 8) (hk : ∀ k, k ≠ 53 → M' k = M k) : TR M' t := h.of (hk _ (by omega)) (hk _ (by omega))
set_option maxRecDepth 100000 in
set_option maxHeartbeats 4000000 in
theorem d_in (l : Launch) (M : Mem) {a b c : Int} (ha : i64 a) (hb : i64 b) (hc : i64 c) : Cm l yX6_in cX6_in 6 (some .boolean) 0 0 [vL a, vL b, vL c] M (rB (b ≤ a ∧ a ≤ c) M) := by
  refine cmo [some (vL a), none, some (vL b), none, some (vL c), none] ?_
  refine ev_lload_n dX6_in_0 rfl ?_
  refine ev_lload_n dX6_in_1 rfl ?_
  refine ev_lcmp_lt 17 dX6_in_2 dX6_in_3 (by omega) (by omega) (fun c2 => ?_) (fun c2 => ?_)
  · refine ev_iconst dX6_in_17 ?_
    exact em_zret dX6_in_18 (by omega) ⟨rfl, _, rfl, by omega⟩
  · refine ev_lload_n dX6_in_6 rfl ?_
    refine ev_lload dX6_in_7 rfl ?_
    refine ev_lcmp_gt 17 dX6_in_9 dX6_in_10 (by omega) (by omega) (fun c9 => ?_) (fun c9 => ?_)
    · refine ev_iconst dX6_in_17 ?_
      exact em_zret dX6_in_18 (by omega) ⟨rfl, _, rfl, by omega⟩
    · refine ev_iconst dX6_in_13 ?_
      refine ev_goto 18 dX6_in_14 ?_
      exact em_zret dX6_in_18 (by omega) ⟨rfl, _, rfl, by omega⟩
set_option maxRecDepth 100000 in
set_option maxHeartbeats 4000000 in
theorem d_isTrack (l : Launch) {M : Mem} {a : Int} (ha : i32 a) (hT : 0 ≤ M 53 0 ∧ M 53 0 ≤ 8) : Cm l yX6_isTrack cX6_isTrack 2 (some .boolean) 1 25 [vR 53, vI a] M (rB (0 ≤ a ∧ a < M 53 0) M) := by
  refine cmo [some (vR 53), some (vI a)] ?_
  refine ev_iload_n dX6_isTrack_0 rfl ?_
  refine ev_i2l dX6_isTrack_1 (by omega) ?_
  refine ev_lconst0 dX6_isTrack_2 ?_
  refine ev_aload_n dX6_isTrack_3 rfl ?_
  refine em_getI fX6_40.g dX6_isTrack_4 lay_53 rfl ?_
  refine ev_iconst dX6_isTrack_7 ?_
  refine ev_isub dX6_isTrack_8 ?_
  refine ev_i2l dX6_isTrack_9 (by omega) ?_
  refine em_S3 (d_in l _ (by omega) (by omega) (by omega)) mX6_44 dX6_isTrack_10 ?_
  rintro r M ⟨rfl, z10, rfl, h10⟩
  exact em_zret dX6_isTrack_13 (by omega) ⟨rfl, _, rfl, by omega⟩
set_option maxRecDepth 100000 in
set_option maxHeartbeats 4000000 in
theorem d_isTone (l : Launch) {M : Mem} {a : Int} (ha : i32 a) (hT : 0 ≤ M 53 4 ∧ M 53 4 ≤ 6) : Cm l yX6_isTone cX6_isTone 2 (some .boolean) 1 25 [vR 53, vI a] M (rB (0 ≤ a ∧ a < M 53 4) M) := by
  refine cmo [some (vR 53), some (vI a)] ?_
  refine ev_iload_n dX6_isTone_0 rfl ?_
  refine ev_i2l dX6_isTone_1 (by omega) ?_
  refine ev_lconst0 dX6_isTone_2 ?_
  refine ev_aload_n dX6_isTone_3 rfl ?_
  refine em_getI fX6_159.g dX6_isTone_4 lay_53 rfl ?_
  refine ev_iconst dX6_isTone_7 ?_
  refine ev_isub dX6_isTone_8 ?_
  refine ev_i2l dX6_isTone_9 (by omega) ?_
  refine em_S3 (d_in l _ (by omega) (by omega) (by omega)) mX6_44 dX6_isTone_10 ?_
  rintro r M ⟨rfl, z10, rfl, h10⟩
  exact em_zret dX6_isTone_13 (by omega) ⟨rfl, _, rfl, by omega⟩
set_option maxRecDepth 100000 in
set_option maxHeartbeats 4000000 in
theorem d_isSpot (l : Launch) (M : Mem) {a b : Int} (ha : i32 a) (hb : i32 b) : Cm l yX6_isSpot cX6_isSpot 2 (some .boolean) 1 25 [vI a, vI b] M (rB ((-100 ≤ a ∧ a ≤ 100) ∧ (-100 ≤ b ∧ b ≤ 100)) M) := by
  refine cmo [some (vI a), some (vI b)] ?_
  refine ev_iload_n dX6_isSpot_0 rfl ?_
  refine ev_i2l dX6_isSpot_1 (by omega) ?_
  refine ev_ldc2 (-100) kX6_48 dX6_isSpot_2 (by decide) ?_
  refine ev_ldc2 (100) kX6_50 dX6_isSpot_5 (by decide) ?_
  refine em_S3 (d_in l _ (by omega) (by omega) (by omega)) mX6_44 dX6_isSpot_8 ?_
  rintro r M ⟨rfl, z8, rfl, h8⟩
  refine ev_if_eq 32 dX6_isSpot_11 (by omega) (fun c11 => ?_) (fun c11 => ?_)
  · refine ev_iconst dX6_isSpot_32 ?_
    exact em_zret dX6_isSpot_33 (by omega) ⟨rfl, _, rfl, by omega⟩
  · refine ev_iload_n dX6_isSpot_14 rfl ?_
    refine ev_i2l dX6_isSpot_15 (by omega) ?_
    refine ev_ldc2 (-100) kX6_48 dX6_isSpot_16 (by decide) ?_
    refine ev_ldc2 (100) kX6_50 dX6_isSpot_19 (by decide) ?_
    refine em_S3 (d_in l _ (by omega) (by omega) (by omega)) mX6_44 dX6_isSpot_22 ?_
    rintro r M ⟨rfl, z22, rfl, h22⟩
    refine ev_if_eq 32 dX6_isSpot_25 (by omega) (fun c25 => ?_) (fun c25 => ?_)
    · refine ev_iconst dX6_isSpot_32 ?_
      exact em_zret dX6_isSpot_33 (by omega) ⟨rfl, _, rfl, by omega⟩
    · refine ev_iconst dX6_isSpot_28 ?_
      refine ev_goto 33 dX6_isSpot_29 ?_
      exact em_zret dX6_isSpot_33 (by omega) ⟨rfl, _, rfl, by omega⟩
set_option maxRecDepth 100000 in
set_option maxHeartbeats 4000000 in
theorem d_least (l : Launch) (M : Mem) {p r : Int} (hp : 1 ≤ p ∧ p ≤ 1000000) (hr : 1 ≤ r ∧ r ≤ 1000000) : Cm l yX6_least cX6_least 6 (some .long) 0 0 [vL p, vL r] M (rL (dst p r) M) := by
  refine cmo [some (vL p), none, some (vL r), none, none, none] ?_
  have e1 : r.tmod p = r % p := Int.tmod_eq_emod_of_nonneg (by omega)
  have e2 := Int.emod_nonneg r (show p ≠ 0 by omega)
  have e3 := Int.emod_lt_of_pos r (show 0 < p by omega)
  refine ev_lload_n dX6_least_0 rfl ?_
  refine ev_lload_n dX6_least_1 rfl ?_
  refine ev_lrem dX6_least_2 (by omega) (by omega) (by omega) ?_
  rw [e1]
  refine ev_lstore dX6_least_3 (by decide) ?_
  refine ev_ls [some (vL _), none, some (vL _), none, some (vL _), none] rfl ?_
  refine ev_lload dX6_least_5 rfl ?_
  refine ev_lload_n dX6_least_7 rfl ?_
  refine ev_lload dX6_least_8 rfl ?_
  refine ev_lsub dX6_least_10 ?_
  refine ev_lcmp_ge 20 dX6_least_11 dX6_least_12 (by omega) (by omega) (fun c11 => ?_) (fun c11 => ?_)
  · refine ev_lload_n dX6_least_20 rfl ?_
    refine ev_lload dX6_least_21 rfl ?_
    refine ev_lsub dX6_least_23 ?_
    exact em_lret dX6_least_24 ⟨rfl, by unfold dst; congr 3; omega⟩
  · refine ev_lload dX6_least_15 rfl ?_
    refine ev_goto 24 dX6_least_17 ?_
    exact em_lret dX6_least_24 ⟨rfl, by unfold dst; congr 3; omega⟩
set_option maxRecDepth 100000 in
set_option maxHeartbeats 4000000 in
theorem d_between (l : Launch) {M : Mem} {a b c : Int} : Cm l yX6_between cX6_between 7 (some .long) 0 0 [vR 53, vL a, vL b, vL c] M (rL (a * M 53 6 + (b - a) * c) M) := by
  refine cmo [some (vR 53), some (vL a), none, some (vL b), none, some (vL c), none] ?_
  refine ev_lload_n dX6_between_0 rfl ?_
  refine ev_aload_n dX6_between_1 rfl ?_
  refine em_getL fX6_69.g dX6_between_2 lay_53 rfl ?_
  refine ev_lmul dX6_between_5 ?_
  refine ev_lload_n dX6_between_6 rfl ?_
  refine ev_lload_n dX6_between_7 rfl ?_
  refine ev_lsub dX6_between_8 ?_
  refine ev_lload dX6_between_9 rfl ?_
  refine ev_lmul dX6_between_11 ?_
  refine ev_ladd dX6_between_12 ?_
  exact em_lret dX6_between_13 ⟨rfl, rfl⟩
theorem dn_neg {a b : Int} (hb : 0 < b) (ha : a < 0) : -((b - 1 - a).tdiv b) = a / b := by
  rw [Int.tdiv_eq_ediv_of_nonneg (by omega)]
  have e1 := Int.mul_ediv_add_emod a b
  have e2 := Int.emod_nonneg a (show b ≠ 0 by omega)
  have e3 := Int.emod_lt_of_pos a hb
  have h := (Int.ediv_emod_unique (a := b - 1 - a) (r := b - 1 - a % b) (q := -(a / b)) hb).mpr ⟨by rw [Int.mul_neg]; omega, by omega, by omega⟩
  rw [h.1, Int.neg_neg]
set_option maxRecDepth 100000 in
set_option maxHeartbeats 4000000 in
theorem d_down (l : Launch) (M : Mem) {a b : Int} (ha : -4611686018427387904 < a ∧ a < 4611686018427387904) (hb : 0 < b ∧ b < 4611686018427387904) : Cm l yX6_down cX6_down 4 (some .long) 0 0 [vL a, vL b] M (rL (a / b) M) := by
  refine cmo [some (vL a), none, some (vL b), none] ?_
  refine ev_lload_n dX6_down_0 rfl ?_
  refine ev_lconst0 dX6_down_1 ?_
  refine ev_lcmp_lt 12 dX6_down_2 dX6_down_3 (by omega) (by omega) (fun c2 => ?_) (fun c2 => ?_)
  · refine ev_lload_n dX6_down_12 rfl ?_
    refine ev_lconst1 dX6_down_13 ?_
    refine ev_lsub dX6_down_14 ?_
    refine ev_lload_n dX6_down_15 rfl ?_
    refine ev_lsub dX6_down_16 ?_
    refine ev_lload_n dX6_down_17 rfl ?_
    refine ev_ldiv dX6_down_18 (by omega) (by omega) (by omega) ?_
    refine ev_lneg dX6_down_19 ?_
    first | exact em_lret dX6_down_20 ⟨rfl, by rw [dn_neg (by omega) (by omega)]⟩ | exact em_lret dX6_down_20 ⟨rfl, by rw [Int.tdiv_eq_ediv_of_nonneg (by omega)]⟩
  · refine ev_lload_n dX6_down_6 rfl ?_
    refine ev_lload_n dX6_down_7 rfl ?_
    refine ev_ldiv dX6_down_8 (by omega) (by omega) (by omega) ?_
    refine ev_goto 20 dX6_down_9 ?_
    first | exact em_lret dX6_down_20 ⟨rfl, by rw [dn_neg (by omega) (by omega)]⟩ | exact em_lret dX6_down_20 ⟨rfl, by rw [Int.tdiv_eq_ediv_of_nonneg (by omega)]⟩
set_option maxRecDepth 100000 in
set_option maxHeartbeats 4000000 in
theorem d_common (l : Launch) (M : Mem) {a b : Int} (ha : -9223372036854775808 < a ∧ a < 9223372036854775808) (hb : 0 ≤ b ∧ b < 9223372036854775808) : Cm l yX6_common cX6_common 10 (some .long) 0 0 [vL a, vL b] M (rL (Int.gcd a b : Int) M) := by
  refine cmo [some (vL a), none, some (vL b), none, none, none, none, none, none, none] ?_
  have loop : ∀ (n lg sm : Nat), sm < n → Nat.gcd lg sm = Int.gcd a b → lg < 9223372036854775808 → sm < 9223372036854775808 → Em l yX6_common cX6_common 10 (some .long) 0 0 (rL (Int.gcd a b : Int) M) 17 [some (vL a), none, some (vL b), none, some (vL (lg : Int)), none, some (vL (sm : Int)), none, none, none] [] M := by
    intro n
    induction n with
    | zero => intro lg sm h; omega
    | succ n ih =>
      intro lg sm hn hg hl hs
      refine ev_lload dX6_common_17 rfl ?_
      refine ev_lconst0 dX6_common_19 ?_
      refine ev_lcmp_eq 42 dX6_common_20 dX6_common_21 (by omega) (by omega) (fun c1 => ?_) (fun c1 => ?_)
      · refine ev_lload dX6_common_42 rfl ?_
        have e0 : sm = 0 := by omega
        subst e0
        rw [Nat.gcd_zero_right] at hg
        exact em_lret dX6_common_44 ⟨rfl, by rw [hg]⟩
      · have hmod : (lg : Int).tmod (sm : Int) = ((lg % sm : Nat) : Int) := (Int.ofNat_tmod lg sm).symm
        have hlt : lg % sm < sm := Nat.mod_lt _ (by omega)
        refine ev_lload dX6_common_24 rfl ?_
        refine ev_lload dX6_common_26 rfl ?_
        refine ev_lrem dX6_common_28 (by omega) (by omega) (by omega) ?_
        rw [hmod]
        refine ev_lstore dX6_common_29 (by decide) ?_
        refine ev_ls [some (vL _), none, some (vL _), none, some (vL _), none, some (vL _), none, some (vL _), none] rfl ?_
        refine ev_lload dX6_common_31 rfl ?_
        refine ev_lstore dX6_common_33 (by decide) ?_
        refine ev_ls [some (vL _), none, some (vL _), none, some (vL _), none, some (vL _), none, some (vL _), none] rfl ?_
        refine ev_lload dX6_common_35 rfl ?_
        refine ev_lstore dX6_common_37 (by decide) ?_
        refine ev_ls [some (vL _), none, some (vL _), none, some (vL _), none, some (vL _), none, some (vL _), none] rfl ?_
        refine ev_goto 17 dX6_common_39 ?_
        refine ev_mask [true, true, true, true, true, true, true, true, false, false] ?_
        exact ih sm (lg % sm) (by omega) (by rw [← hg, Nat.gcd_comm sm, ← Nat.gcd_rec, Nat.gcd_comm]) (by omega) (by omega)
  refine ev_lload_n dX6_common_0 rfl ?_
  refine ev_lconst0 dX6_common_1 ?_
  refine ev_lcmp_ge 11 dX6_common_2 dX6_common_3 (by omega) (by omega) (fun c2 => ?_) (fun c2 => ?_)
  · refine ev_lload_n dX6_common_11 rfl ?_
    refine ev_lstore dX6_common_12 (by decide) ?_
    refine ev_ls [some (vL _), none, some (vL _), none, some (vL _), none, none, none, none, none] rfl ?_
    refine ev_lload_n dX6_common_14 rfl ?_
    refine ev_lstore dX6_common_15 (by decide) ?_
    refine ev_ls [some (vL _), none, some (vL _), none, some (vL _), none, some (vL _), none, none, none] rfl ?_
    have hfin := loop (b.natAbs + 1) a.natAbs b.natAbs (by omega) rfl (by omega) (by omega)
    first | (rw [show ((a.natAbs : Nat) : Int) = -a by omega, show ((b.natAbs : Nat) : Int) = b by omega] at hfin; exact hfin) | (rw [show ((a.natAbs : Nat) : Int) = a by omega, show ((b.natAbs : Nat) : Int) = b by omega] at hfin; exact hfin)
  · refine ev_lload_n dX6_common_6 rfl ?_
    refine ev_lneg dX6_common_7 ?_
    refine ev_goto 12 dX6_common_8 ?_
    refine ev_lstore dX6_common_12 (by decide) ?_
    refine ev_ls [some (vL _), none, some (vL _), none, some (vL _), none, none, none, none, none] rfl ?_
    refine ev_lload_n dX6_common_14 rfl ?_
    refine ev_lstore dX6_common_15 (by decide) ?_
    refine ev_ls [some (vL _), none, some (vL _), none, some (vL _), none, some (vL _), none, none, none] rfl ?_
    have hfin := loop (b.natAbs + 1) a.natAbs b.natAbs (by omega) rfl (by omega) (by omega)
    first | (rw [show ((a.natAbs : Nat) : Int) = -a by omega, show ((b.natAbs : Nat) : Int) = b by omega] at hfin; exact hfin) | (rw [show ((a.natAbs : Nat) : Int) = a by omega, show ((b.natAbs : Nat) : Int) = b by omega] at hfin; exact hfin)
set_option maxRecDepth 100000 in
set_option maxHeartbeats 4000000 in
theorem d_part (l : Launch) (M : Mem) {a b c : Int} (ha : -9223372036854775808 < a ∧ a < 9223372036854775808) (hb : 0 < b ∧ b < 9223372036854775808) (hc : i32 c) : Cm l yX6_part cX6_part 5 (some .long) 1 29 [vL a, vL b, vI c] M (rL ((if c = 0 then a else b).tdiv (Int.gcd a b : Int)) M) := by
  have hg1 : 0 < Int.gcd a b := Int.gcd_pos_of_ne_zero_right a (by omega)
  have hg2 : (Int.gcd a b : Int) ≤ b := Int.le_of_dvd (by omega) (Int.gcd_dvd_right a b)
  refine cmo [some (vL a), none, some (vL b), none, some (vI c)] ?_
  refine ev_iload dX6_part_0 rfl ?_
  refine ev_if_ne 9 dX6_part_2 (by omega) (fun c2 => ?_) (fun c2 => ?_)
  · refine ev_lload_n dX6_part_9 rfl ?_
    refine ev_lload_n dX6_part_10 rfl ?_
    refine ev_lload_n dX6_part_11 rfl ?_
    refine em_S2 (d_common l _ (by omega) (by omega)) mX6_84 dX6_part_12 ?_
    rintro r M ⟨rfl, rfl⟩
    refine ev_ldiv dX6_part_15 (by omega) (by omega) (by omega) ?_
    exact em_lret dX6_part_16 ⟨rfl, by first | rw [if_pos (by omega)] | rw [if_neg (by omega)]⟩
  · refine ev_lload_n dX6_part_5 rfl ?_
    refine ev_goto 10 dX6_part_6 ?_
    refine ev_lload_n dX6_part_10 rfl ?_
    refine ev_lload_n dX6_part_11 rfl ?_
    refine em_S2 (d_common l _ (by omega) (by omega)) mX6_84 dX6_part_12 ?_
    rintro r M ⟨rfl, rfl⟩
    refine ev_ldiv dX6_part_15 (by omega) (by omega) (by omega) ?_
    exact em_lret dX6_part_16 ⟨rfl, by first | rw [if_pos (by omega)] | rw [if_neg (by omega)]⟩
set_option maxRecDepth 100000 in
set_option maxHeartbeats 4000000 in
theorem d_meet (l : Launch) {M : Mem} {i j : Nat} (hi : i < 8) (hj : j < 8) (hA : TR M i) (hB : TR M j) (hLA : LK M i) (hLB : LK M j) : Cm l yX6_meet cX6_meet 15 (some .boolean) 1 25 [vR 53, vI (i : Int), vI (j : Int)] M (fun r M' => (∀ k, k ≠ 53 → M' k = M k) ∧ (∀ f, f ≠ 6 → f ≠ 7 → f ≠ 8 → M' 53 f = M 53 f) ∧ M' 53 6 = cBe (M (2 + 2 * i)) (M (2 + 2 * j)) ∧ M' 53 7 = cSA (M (2 + 2 * i)) (M (2 + 2 * j)) ∧ M' 53 8 = cSB (M (2 + 2 * i)) (M (2 + 2 * j)) ∧ ∃ z : Int, r = some (vI z) ∧ ((z = 0 ∧ ¬ cIs (M (2 + 2 * i)) (M (2 + 2 * j))) ∨ (z = 1 ∧ cIs (M (2 + 2 * i)) (M (2 + 2 * j))))) := by
  refine cmo [some (vR 53), some (vI (i : Int)), some (vI (j : Int)), none, none, none, none, none, none, none, none, none, none, none, none] ?_
  obtain ⟨a0, a1, a2, a3, a4, a5, a6, -⟩ := hA
  obtain ⟨b0, b1, b2, b3, b4, b5, b6, -⟩ := hB
  obtain ⟨u0, u1, u2, u3, u4, u5, u6, -⟩ := hLA
  obtain ⟨v0, v1, v2, v3, v4, v5, v6, -⟩ := hLB
  have p0 := mb (x := (M (2 + 2 * i)) 3) (z := (M (2 + 2 * j)) 4) 200 200 (by omega) (by omega)
  have p1 := mb (x := (M (2 + 2 * i)) 4) (z := (M (2 + 2 * j)) 3) 200 200 (by omega) (by omega)
  have p2 := mb (x := ((M (2 + 2 * j)) 0 - (M (2 + 2 * i)) 0)) (z := (M (2 + 2 * j)) 4) 200 200 (by omega) (by omega)
  have p3 := mb (x := ((M (2 + 2 * j)) 1 - (M (2 + 2 * i)) 1)) (z := (M (2 + 2 * j)) 3) 200 200 (by omega) (by omega)
  have p4 := mb (x := ((M (2 + 2 * j)) 0 - (M (2 + 2 * i)) 0)) (z := (M (2 + 2 * i)) 4) 200 200 (by omega) (by omega)
  have p5 := mb (x := ((M (2 + 2 * j)) 1 - (M (2 + 2 * i)) 1)) (z := (M (2 + 2 * i)) 3) 200 200 (by omega) (by omega)
  have e21 : M 54 (6 * i + 2) - M 54 (6 * i) = (M (2 + 2 * i)) 3 := by omega
  have e46 : M 54 (6 * i + 3) - M 54 (6 * i + 1) = (M (2 + 2 * i)) 4 := by omega
  have e70 : M 54 (6 * j + 2) - M 54 (6 * j) = (M (2 + 2 * j)) 3 := by omega
  have e96 : M 54 (6 * j + 3) - M 54 (6 * j + 1) = (M (2 + 2 * j)) 4 := by omega
  have e118 : M 54 (6 * j) - M 54 (6 * i) = (M (2 + 2 * j)) 0 - (M (2 + 2 * i)) 0 := by omega
  have e144 : M 54 (6 * j + 1) - M 54 (6 * i + 1) = (M (2 + 2 * j)) 1 - (M (2 + 2 * i)) 1 := by omega
  refine ev_aload_n dX6_meet_0 rfl ?_
  refine em_getR fX6_7.g dX6_meet_1 lay_53 rfl ?_
  refine ev_bipush dX6_meet_4 (by decide) ?_
  refine ev_iload_n dX6_meet_6 rfl ?_
  refine ev_imul dX6_meet_7 ?_
  refine ev_iconst dX6_meet_8 ?_
  refine ev_iadd dX6_meet_9 ?_
  refine en_iald ((6 * i) + 2) dX6_meet_10 lay_54 (by omega) (by omega) ?_
  refine ev_aload_n dX6_meet_11 rfl ?_
  refine em_getR fX6_7.g dX6_meet_12 lay_53 rfl ?_
  refine ev_bipush dX6_meet_15 (by decide) ?_
  refine ev_iload_n dX6_meet_17 rfl ?_
  refine ev_imul dX6_meet_18 ?_
  refine en_iald (6 * i) dX6_meet_19 lay_54 (by omega) (by omega) ?_
  refine ev_isub dX6_meet_20 ?_
  rw [e21]
  refine ev_i2l dX6_meet_21 (by omega) ?_
  refine ev_lstore_n dX6_meet_22 (by decide) ?_
  refine ev_ls [some (vR _), some (vI _), some (vI _), some (vL _), none, none, none, none, none, none, none, none, none, none, none] rfl ?_
  refine ev_aload_n dX6_meet_23 rfl ?_
  refine em_getR fX6_7.g dX6_meet_24 lay_53 rfl ?_
  refine ev_bipush dX6_meet_27 (by decide) ?_
  refine ev_iload_n dX6_meet_29 rfl ?_
  refine ev_imul dX6_meet_30 ?_
  refine ev_iconst dX6_meet_31 ?_
  refine ev_iadd dX6_meet_32 ?_
  refine en_iald ((6 * i) + 3) dX6_meet_33 lay_54 (by omega) (by omega) ?_
  refine ev_aload_n dX6_meet_34 rfl ?_
  refine em_getR fX6_7.g dX6_meet_35 lay_53 rfl ?_
  refine ev_bipush dX6_meet_38 (by decide) ?_
  refine ev_iload_n dX6_meet_40 rfl ?_
  refine ev_imul dX6_meet_41 ?_
  refine ev_iconst dX6_meet_42 ?_
  refine ev_iadd dX6_meet_43 ?_
  refine en_iald ((6 * i) + 1) dX6_meet_44 lay_54 (by omega) (by omega) ?_
  refine ev_isub dX6_meet_45 ?_
  rw [e46]
  refine ev_i2l dX6_meet_46 (by omega) ?_
  refine ev_lstore dX6_meet_47 (by decide) ?_
  refine ev_ls [some (vR _), some (vI _), some (vI _), some (vL _), none, some (vL _), none, none, none, none, none, none, none, none, none] rfl ?_
  refine ev_aload_n dX6_meet_49 rfl ?_
  refine em_getR fX6_7.g dX6_meet_50 lay_53 rfl ?_
  refine ev_bipush dX6_meet_53 (by decide) ?_
  refine ev_iload_n dX6_meet_55 rfl ?_
  refine ev_imul dX6_meet_56 ?_
  refine ev_iconst dX6_meet_57 ?_
  refine ev_iadd dX6_meet_58 ?_
  refine en_iald ((6 * j) + 2) dX6_meet_59 lay_54 (by omega) (by omega) ?_
  refine ev_aload_n dX6_meet_60 rfl ?_
  refine em_getR fX6_7.g dX6_meet_61 lay_53 rfl ?_
  refine ev_bipush dX6_meet_64 (by decide) ?_
  refine ev_iload_n dX6_meet_66 rfl ?_
  refine ev_imul dX6_meet_67 ?_
  refine en_iald (6 * j) dX6_meet_68 lay_54 (by omega) (by omega) ?_
  refine ev_isub dX6_meet_69 ?_
  rw [e70]
  refine ev_i2l dX6_meet_70 (by omega) ?_
  refine ev_lstore dX6_meet_71 (by decide) ?_
  refine ev_ls [some (vR _), some (vI _), some (vI _), some (vL _), none, some (vL _), none, some (vL _), none, none, none, none, none, none, none] rfl ?_
  refine ev_aload_n dX6_meet_73 rfl ?_
  refine em_getR fX6_7.g dX6_meet_74 lay_53 rfl ?_
  refine ev_bipush dX6_meet_77 (by decide) ?_
  refine ev_iload_n dX6_meet_79 rfl ?_
  refine ev_imul dX6_meet_80 ?_
  refine ev_iconst dX6_meet_81 ?_
  refine ev_iadd dX6_meet_82 ?_
  refine en_iald ((6 * j) + 3) dX6_meet_83 lay_54 (by omega) (by omega) ?_
  refine ev_aload_n dX6_meet_84 rfl ?_
  refine em_getR fX6_7.g dX6_meet_85 lay_53 rfl ?_
  refine ev_bipush dX6_meet_88 (by decide) ?_
  refine ev_iload_n dX6_meet_90 rfl ?_
  refine ev_imul dX6_meet_91 ?_
  refine ev_iconst dX6_meet_92 ?_
  refine ev_iadd dX6_meet_93 ?_
  refine en_iald ((6 * j) + 1) dX6_meet_94 lay_54 (by omega) (by omega) ?_
  refine ev_isub dX6_meet_95 ?_
  rw [e96]
  refine ev_i2l dX6_meet_96 (by omega) ?_
  refine ev_lstore dX6_meet_97 (by decide) ?_
  refine ev_ls [some (vR _), some (vI _), some (vI _), some (vL _), none, some (vL _), none, some (vL _), none, some (vL _), none, none, none, none, none] rfl ?_
  refine ev_aload_n dX6_meet_99 rfl ?_
  refine em_getR fX6_7.g dX6_meet_100 lay_53 rfl ?_
  refine ev_bipush dX6_meet_103 (by decide) ?_
  refine ev_iload_n dX6_meet_105 rfl ?_
  refine ev_imul dX6_meet_106 ?_
  refine en_iald (6 * j) dX6_meet_107 lay_54 (by omega) (by omega) ?_
  refine ev_aload_n dX6_meet_108 rfl ?_
  refine em_getR fX6_7.g dX6_meet_109 lay_53 rfl ?_
  refine ev_bipush dX6_meet_112 (by decide) ?_
  refine ev_iload_n dX6_meet_114 rfl ?_
  refine ev_imul dX6_meet_115 ?_
  refine en_iald (6 * i) dX6_meet_116 lay_54 (by omega) (by omega) ?_
  refine ev_isub dX6_meet_117 ?_
  rw [e118]
  refine ev_i2l dX6_meet_118 (by omega) ?_
  refine ev_lstore dX6_meet_119 (by decide) ?_
  refine ev_ls [some (vR _), some (vI _), some (vI _), some (vL _), none, some (vL _), none, some (vL _), none, some (vL _), none, some (vL _), none, none, none] rfl ?_
  refine ev_aload_n dX6_meet_121 rfl ?_
  refine em_getR fX6_7.g dX6_meet_122 lay_53 rfl ?_
  refine ev_bipush dX6_meet_125 (by decide) ?_
  refine ev_iload_n dX6_meet_127 rfl ?_
  refine ev_imul dX6_meet_128 ?_
  refine ev_iconst dX6_meet_129 ?_
  refine ev_iadd dX6_meet_130 ?_
  refine en_iald ((6 * j) + 1) dX6_meet_131 lay_54 (by omega) (by omega) ?_
  refine ev_aload_n dX6_meet_132 rfl ?_
  refine em_getR fX6_7.g dX6_meet_133 lay_53 rfl ?_
  refine ev_bipush dX6_meet_136 (by decide) ?_
  refine ev_iload_n dX6_meet_138 rfl ?_
  refine ev_imul dX6_meet_139 ?_
  refine ev_iconst dX6_meet_140 ?_
  refine ev_iadd dX6_meet_141 ?_
  refine en_iald ((6 * i) + 1) dX6_meet_142 lay_54 (by omega) (by omega) ?_
  refine ev_isub dX6_meet_143 ?_
  rw [e144]
  refine ev_i2l dX6_meet_144 (by omega) ?_
  refine ev_lstore dX6_meet_145 (by decide) ?_
  refine ev_ls [some (vR _), some (vI _), some (vI _), some (vL _), none, some (vL _), none, some (vL _), none, some (vL _), none, some (vL _), none, some (vL _), none] rfl ?_
  refine ev_aload_n dX6_meet_147 rfl ?_
  refine ev_lload_n dX6_meet_148 rfl ?_
  refine ev_lload dX6_meet_149 rfl ?_
  refine ev_lmul dX6_meet_151 ?_
  refine ev_lload dX6_meet_152 rfl ?_
  refine ev_lload dX6_meet_154 rfl ?_
  refine ev_lmul dX6_meet_156 ?_
  refine ev_lsub dX6_meet_157 ?_
  refine em_putL fX6_69 dX6_meet_158 lay_53 rfl ?_
  refine ev_aload_n dX6_meet_161 rfl ?_
  refine ev_lload dX6_meet_162 rfl ?_
  refine ev_lload dX6_meet_164 rfl ?_
  refine ev_lmul dX6_meet_166 ?_
  refine ev_lload dX6_meet_167 rfl ?_
  refine ev_lload dX6_meet_169 rfl ?_
  refine ev_lmul dX6_meet_171 ?_
  refine ev_lsub dX6_meet_172 ?_
  refine em_putL fX6_73 dX6_meet_173 lay_53 rfl ?_
  refine ev_aload_n dX6_meet_176 rfl ?_
  refine ev_lload dX6_meet_177 rfl ?_
  refine ev_lload dX6_meet_179 rfl ?_
  refine ev_lmul dX6_meet_181 ?_
  refine ev_lload dX6_meet_182 rfl ?_
  refine ev_lload_n dX6_meet_184 rfl ?_
  refine ev_lmul dX6_meet_185 ?_
  refine ev_lsub dX6_meet_186 ?_
  refine em_putL fX6_76 dX6_meet_187 lay_53 rfl ?_
  refine ev_mem (fun M1 hM1 => ?_)
  have k1 : ∀ k, k ≠ 53 → M1 k = M k := fun k hk => by rw [hM1, up2_row _ _ _ _ hk, up2_row _ _ _ _ hk, up2_row _ _ _ _ hk]
  have k2 : ∀ f, f ≠ 6 → f ≠ 7 → f ≠ 8 → M1 53 f = M 53 f := fun f h6 h7 h8 => by rw [hM1, up2_ne _ _ _ _ (Or.inr h8), up2_ne _ _ _ _ (Or.inr h7), up2_ne _ _ _ _ (Or.inr h6)]
  have g1 : M1 53 6 = (M (2 + 2 * i)) 3 * (M (2 + 2 * j)) 4 - (M (2 + 2 * i)) 4 * (M (2 + 2 * j)) 3 := by rw [hM1, up2_ne _ _ _ _ (Or.inr (by omega)), up2_ne _ _ _ _ (Or.inr (by omega)), up2_same]
  have g2 : M1 53 7 = ((M (2 + 2 * j)) 0 - (M (2 + 2 * i)) 0) * (M (2 + 2 * j)) 4 - ((M (2 + 2 * j)) 1 - (M (2 + 2 * i)) 1) * (M (2 + 2 * j)) 3 := by rw [hM1, up2_ne _ _ _ _ (Or.inr (by omega)), up2_same]
  have g3 : M1 53 8 = ((M (2 + 2 * j)) 0 - (M (2 + 2 * i)) 0) * (M (2 + 2 * i)) 4 - ((M (2 + 2 * j)) 1 - (M (2 + 2 * i)) 1) * (M (2 + 2 * i)) 3 := by rw [hM1, up2_same]
  clear hM1
  have hsg : cSg (M (2 + 2 * i)) (M (2 + 2 * j)) = if ((M (2 + 2 * i)) 3 * (M (2 + 2 * j)) 4 - (M (2 + 2 * i)) 4 * (M (2 + 2 * j)) 3) < 0 then -1 else 1 := rfl
  refine ev_aload_n dX6_meet_190 rfl ?_
  refine em_getL fX6_69.g dX6_meet_191 lay_53 rfl ?_
  refine ev_lconst0 dX6_meet_194 ?_
  refine ev_lcmp_ge 226 dX6_meet_195 dX6_meet_196 (by omega) (by omega) (fun c1 => ?_) (fun c1 => ?_)
  · rw [if_neg (by omega)] at hsg
    have x1 : M1 53 6 = cBe (M (2 + 2 * i)) (M (2 + 2 * j)) := by rw [g1]; unfold cBe cTu; rw [hsg]; omega
    have x2 : M1 53 7 = cSA (M (2 + 2 * i)) (M (2 + 2 * j)) := by rw [g2]; unfold cSA; rw [hsg]; omega
    have x3 : M1 53 8 = cSB (M (2 + 2 * i)) (M (2 + 2 * j)) := by rw [g3]; unfold cSB; rw [hsg]; omega
    have w1 : -80000 ≤ M1 53 6 ∧ M1 53 6 ≤ 80000 := by rw [x1]; unfold cBe cTu; rw [hsg]; omega
    have w2 : -80000 ≤ M1 53 7 ∧ M1 53 7 ≤ 80000 := by rw [x2]; unfold cSA; rw [hsg]; omega
    have w3 : -80000 ≤ M1 53 8 ∧ M1 53 8 ≤ 80000 := by rw [x3]; unfold cSB; rw [hsg]; omega
    have w0 : 0 ≤ M1 53 6 := by rw [x1]; unfold cBe cTu; rw [hsg]; omega
    refine ev_aload_n dX6_meet_226 rfl ?_
    refine em_getL fX6_69.g dX6_meet_227 lay_53 rfl ?_
    refine ev_lconst0 dX6_meet_230 ?_
    refine ev_lcmp_le 269 dX6_meet_231 dX6_meet_232 (by omega) (by omega) (fun c231 => ?_) (fun c231 => ?_)
    · refine ev_iconst dX6_meet_269 ?_
      exact em_zret dX6_meet_270 (by omega) ⟨k1, k2, x1, x2, x3, _, rfl, by unfold cIs; omega⟩
    · refine ev_aload_n dX6_meet_235 rfl ?_
      refine em_getL fX6_73.g dX6_meet_236 lay_53 rfl ?_
      refine ev_lconst0 dX6_meet_239 ?_
      refine ev_aload_n dX6_meet_240 rfl ?_
      refine em_getL fX6_69.g dX6_meet_241 lay_53 rfl ?_
      refine em_S3 (d_in l _ (by omega) (by omega) (by omega)) mX6_44 dX6_meet_244 ?_
      rintro r M1 ⟨rfl, z244, rfl, h244⟩
      refine ev_if_eq 269 dX6_meet_247 (by omega) (fun c247 => ?_) (fun c247 => ?_)
      · refine ev_iconst dX6_meet_269 ?_
        exact em_zret dX6_meet_270 (by omega) ⟨k1, k2, x1, x2, x3, _, rfl, by unfold cIs; omega⟩
      · refine ev_aload_n dX6_meet_250 rfl ?_
        refine em_getL fX6_76.g dX6_meet_251 lay_53 rfl ?_
        refine ev_lconst0 dX6_meet_254 ?_
        refine ev_aload_n dX6_meet_255 rfl ?_
        refine em_getL fX6_69.g dX6_meet_256 lay_53 rfl ?_
        refine em_S3 (d_in l _ (by omega) (by omega) (by omega)) mX6_44 dX6_meet_259 ?_
        rintro r M1 ⟨rfl, z259, rfl, h259⟩
        refine ev_if_eq 269 dX6_meet_262 (by omega) (fun c262 => ?_) (fun c262 => ?_)
        · refine ev_iconst dX6_meet_269 ?_
          exact em_zret dX6_meet_270 (by omega) ⟨k1, k2, x1, x2, x3, _, rfl, by unfold cIs; omega⟩
        · refine ev_iconst dX6_meet_265 ?_
          refine ev_goto 270 dX6_meet_266 ?_
          exact em_zret dX6_meet_270 (by omega) ⟨k1, k2, x1, x2, x3, _, rfl, by unfold cIs; omega⟩
  · rw [if_pos (by omega)] at hsg
    refine ev_aload_n dX6_meet_199 rfl ?_
    refine ev_aload_n dX6_meet_200 rfl ?_
    refine em_getL fX6_69.g dX6_meet_201 lay_53 rfl ?_
    refine ev_lneg dX6_meet_204 ?_
    refine em_putL fX6_69 dX6_meet_205 lay_53 rfl ?_
    refine ev_aload_n dX6_meet_208 rfl ?_
    refine ev_aload_n dX6_meet_209 rfl ?_
    refine em_getL fX6_73.g dX6_meet_210 lay_53 rfl ?_
    refine ev_lneg dX6_meet_213 ?_
    refine em_putL fX6_73 dX6_meet_214 lay_53 rfl ?_
    refine ev_aload_n dX6_meet_217 rfl ?_
    refine ev_aload_n dX6_meet_218 rfl ?_
    refine em_getL fX6_76.g dX6_meet_219 lay_53 rfl ?_
    refine ev_lneg dX6_meet_222 ?_
    refine em_putL fX6_76 dX6_meet_223 lay_53 rfl ?_
    refine ev_mem (fun M2 hM2 => ?_)
    replace k2 : ∀ f, f ≠ 6 → f ≠ 7 → f ≠ 8 → M2 53 f = M 53 f := fun f h6 h7 h8 => by rw [hM2, up2_ne _ _ _ _ (Or.inr h8), up2_ne _ _ _ _ (Or.inr h7), up2_ne _ _ _ _ (Or.inr h6), k2 f h6 h7 h8]
    have x1 : M2 53 6 = cBe (M (2 + 2 * i)) (M (2 + 2 * j)) := by rw [hM2, up2_ne _ _ _ _ (Or.inr (by omega)), up2_ne _ _ _ _ (Or.inr (by omega)), up2_same, g1]; unfold cBe cTu; rw [hsg]; omega
    have x2 : M2 53 7 = cSA (M (2 + 2 * i)) (M (2 + 2 * j)) := by rw [hM2, up2_ne _ _ _ _ (Or.inr (by omega)), up2_same, up2_ne _ _ _ _ (Or.inr (by omega)), g2]; unfold cSA; rw [hsg]; omega
    have x3 : M2 53 8 = cSB (M (2 + 2 * i)) (M (2 + 2 * j)) := by rw [hM2, up2_same, up2_ne _ _ _ _ (Or.inr (by omega)), up2_ne _ _ _ _ (Or.inr (by omega)), g3]; unfold cSB; rw [hsg]; omega
    replace k1 : ∀ k, k ≠ 53 → M2 k = M k := fun k hk => by rw [hM2, up2_row _ _ _ _ hk, up2_row _ _ _ _ hk, up2_row _ _ _ _ hk, k1 k hk]
    clear hM2
    have w1 : -80000 ≤ M2 53 6 ∧ M2 53 6 ≤ 80000 := by rw [x1]; unfold cBe cTu; rw [hsg]; omega
    have w2 : -80000 ≤ M2 53 7 ∧ M2 53 7 ≤ 80000 := by rw [x2]; unfold cSA; rw [hsg]; omega
    have w3 : -80000 ≤ M2 53 8 ∧ M2 53 8 ≤ 80000 := by rw [x3]; unfold cSB; rw [hsg]; omega
    have w0 : 0 ≤ M2 53 6 := by rw [x1]; unfold cBe cTu; rw [hsg]; omega
    refine ev_aload_n dX6_meet_226 rfl ?_
    refine em_getL fX6_69.g dX6_meet_227 lay_53 rfl ?_
    refine ev_lconst0 dX6_meet_230 ?_
    refine ev_lcmp_le 269 dX6_meet_231 dX6_meet_232 (by omega) (by omega) (fun c231 => ?_) (fun c231 => ?_)
    · refine ev_iconst dX6_meet_269 ?_
      exact em_zret dX6_meet_270 (by omega) ⟨k1, k2, x1, x2, x3, _, rfl, by unfold cIs; omega⟩
    · refine ev_aload_n dX6_meet_235 rfl ?_
      refine em_getL fX6_73.g dX6_meet_236 lay_53 rfl ?_
      refine ev_lconst0 dX6_meet_239 ?_
      refine ev_aload_n dX6_meet_240 rfl ?_
      refine em_getL fX6_69.g dX6_meet_241 lay_53 rfl ?_
      refine em_S3 (d_in l _ (by omega) (by omega) (by omega)) mX6_44 dX6_meet_244 ?_
      rintro r M2 ⟨rfl, z244, rfl, h244⟩
      refine ev_if_eq 269 dX6_meet_247 (by omega) (fun c247 => ?_) (fun c247 => ?_)
      · refine ev_iconst dX6_meet_269 ?_
        exact em_zret dX6_meet_270 (by omega) ⟨k1, k2, x1, x2, x3, _, rfl, by unfold cIs; omega⟩
      · refine ev_aload_n dX6_meet_250 rfl ?_
        refine em_getL fX6_76.g dX6_meet_251 lay_53 rfl ?_
        refine ev_lconst0 dX6_meet_254 ?_
        refine ev_aload_n dX6_meet_255 rfl ?_
        refine em_getL fX6_69.g dX6_meet_256 lay_53 rfl ?_
        refine em_S3 (d_in l _ (by omega) (by omega) (by omega)) mX6_44 dX6_meet_259 ?_
        rintro r M2 ⟨rfl, z259, rfl, h259⟩
        refine ev_if_eq 269 dX6_meet_262 (by omega) (fun c262 => ?_) (fun c262 => ?_)
        · refine ev_iconst dX6_meet_269 ?_
          exact em_zret dX6_meet_270 (by omega) ⟨k1, k2, x1, x2, x3, _, rfl, by unfold cIs; omega⟩
        · refine ev_iconst dX6_meet_265 ?_
          refine ev_goto 270 dX6_meet_266 ?_
          exact em_zret dX6_meet_270 (by omega) ⟨k1, k2, x1, x2, x3, _, rfl, by unfold cIs; omega⟩
set_option maxRecDepth 100000 in
set_option maxHeartbeats 4000000 in
theorem d_hasHeight (l : Launch) {M : Mem} {i : Nat} {sh : Int} (hi : i < 8) (hT : TR M i) (hL : LK M i) (hb : 0 < M 53 6) (hb2 : M 53 6 ≤ 80000) (h0 : 0 ≤ sh) (h1 : sh ≤ M 53 6) : Cm l yX6_hasHeight cX6_hasHeight 11 (some .boolean) 0 0 [vR 53, vI (i : Int), vL sh] M (fun r M' => M' = up2 M 53 9 (hV (M (2 + 2 * i + 1)) sh (M 53 6)) ∧ ∃ z : Int, r = some (vI z) ∧ ((z = 0 ∧ ¬ hasH (M (2 + 2 * i + 1)) sh (M 53 6)) ∨ (z = 1 ∧ hasH (M (2 + 2 * i + 1)) sh (M 53 6)))) := by
  refine cmo [some (vR 53), some (vI (i : Int)), some (vL sh), none, none, none, none, none, none, none, none] ?_
  obtain ⟨f1, f2, f3, f4, f5, f6, f7⟩ := h_facts hb h0 h1
  have hx := hT.2.2.2.2.2.2.2
  have hy := hL.2.2.2.2.2.2.2
  have ha := hx (hI sh (M 53 6)) (by omega)
  have hya := hy (hI sh (M 53 6)) (by omega)
  have hp1 : i32 (hI sh (M 53 6) : Int) := by omega
  refine ev_ldc2 (8) kX6_62 dX6_hasHeight_0 (by decide) ?_
  refine ev_lload_n dX6_hasHeight_3 rfl ?_
  refine ev_lmul dX6_hasHeight_4 ?_
  refine ev_aload_n dX6_hasHeight_5 rfl ?_
  refine em_getL fX6_69.g dX6_hasHeight_6 lay_53 rfl ?_
  refine ev_ldiv dX6_hasHeight_9 (by omega) (by omega) (by omega) ?_
  rw [f1]
  refine ev_l2i dX6_hasHeight_10 ?_
  refine ev_istore dX6_hasHeight_11 (by decide) ?_
  refine ev_ls [some (vR _), some (vI _), some (vL _), none, some (vI _), none, none, none, none, none, none] rfl ?_
  refine ev_ldc2 (8) kX6_62 dX6_hasHeight_13 (by decide) ?_
  refine ev_lload_n dX6_hasHeight_16 rfl ?_
  refine ev_lmul dX6_hasHeight_17 ?_
  refine ev_aload_n dX6_hasHeight_18 rfl ?_
  refine em_getL fX6_69.g dX6_hasHeight_19 lay_53 rfl ?_
  refine ev_lrem dX6_hasHeight_22 (by omega) (by omega) (by omega) ?_
  rw [f2]
  refine ev_lstore dX6_hasHeight_23 (by decide) ?_
  refine ev_ls [some (vR _), some (vI _), some (vL _), none, some (vI _), some (vL _), none, none, none, none, none] rfl ?_
  refine ev_aload_n dX6_hasHeight_25 rfl ?_
  refine em_getR fX6_13.g dX6_hasHeight_26 lay_53 rfl ?_
  refine ev_bipush dX6_hasHeight_29 (by decide) ?_
  refine ev_iload_n dX6_hasHeight_31 rfl ?_
  refine ev_imul dX6_hasHeight_32 ?_
  refine ev_iload dX6_hasHeight_33 rfl ?_
  refine ev_iadd dX6_hasHeight_35 ?_
  refine en_iald (9 * i + hI sh (M 53 6)) dX6_hasHeight_36 lay_55 (by omega) (by omega) ?_
  rw [hya]
  refine ev_i2l dX6_hasHeight_37 (by omega) ?_
  refine ev_lstore dX6_hasHeight_38 (by decide) ?_
  refine ev_ls [some (vR _), some (vI _), some (vL _), none, some (vI _), some (vL _), none, some (vL _), none, none, none] rfl ?_
  refine ev_lload dX6_hasHeight_40 rfl ?_
  refine ev_lconst0 dX6_hasHeight_42 ?_
  refine ev_lcmp_ne 52 dX6_hasHeight_43 dX6_hasHeight_44 (by omega) (by omega) (fun c43 => ?_) (fun c43 => ?_)
  · have hb2 := hx (hI sh (M 53 6) + 1) (by omega)
    have hyb := hy (hI sh (M 53 6) + 1) (by omega)
    refine ev_aload_n dX6_hasHeight_52 rfl ?_
    refine em_getR fX6_13.g dX6_hasHeight_53 lay_53 rfl ?_
    refine ev_bipush dX6_hasHeight_56 (by decide) ?_
    refine ev_iload_n dX6_hasHeight_58 rfl ?_
    refine ev_imul dX6_hasHeight_59 ?_
    refine ev_iload dX6_hasHeight_60 rfl ?_
    refine ev_iadd dX6_hasHeight_62 ?_
    refine ev_iconst dX6_hasHeight_63 ?_
    refine ev_iadd dX6_hasHeight_64 ?_
    refine en_iald (9 * i + (hI sh (M 53 6) + 1)) dX6_hasHeight_65 lay_55 (by omega) (by omega) ?_
    rw [hyb]
    refine ev_i2l dX6_hasHeight_66 (by omega) ?_
    have hval : hV (M (2 + 2 * i + 1)) sh (M 53 6) = M (2 + 2 * i + 1) (hI sh (M 53 6)) * (M 53 6 - hR sh (M 53 6)) + M (2 + 2 * i + 1) (hI sh (M 53 6) + 1) * hR sh (M 53 6) := by unfold hV; rw [if_neg (by omega)]
    refine ev_lstore dX6_hasHeight_67 (by decide) ?_
    refine ev_ls [some (vR _), some (vI _), some (vL _), none, some (vI _), some (vL _), none, some (vL _), none, some (vL _), none] rfl ?_
    refine ev_aload_n dX6_hasHeight_69 rfl ?_
    refine ev_lload dX6_hasHeight_70 rfl ?_
    refine ev_aload_n dX6_hasHeight_72 rfl ?_
    refine em_getL fX6_69.g dX6_hasHeight_73 lay_53 rfl ?_
    refine ev_lload dX6_hasHeight_76 rfl ?_
    refine ev_lsub dX6_hasHeight_78 ?_
    refine ev_lmul dX6_hasHeight_79 ?_
    refine ev_lload dX6_hasHeight_80 rfl ?_
    refine ev_lload dX6_hasHeight_82 rfl ?_
    refine ev_lmul dX6_hasHeight_84 ?_
    refine ev_ladd dX6_hasHeight_85 ?_
    refine em_putL fX6_79 dX6_hasHeight_86 lay_53 rfl ?_
    refine ev_lload dX6_hasHeight_89 rfl ?_
    refine ev_ldc2 (200000) kX6_82 dX6_hasHeight_91 (by decide) ?_
    refine ev_lcmp_eq 111 dX6_hasHeight_94 dX6_hasHeight_95 (by omega) (by omega) (fun c94 => ?_) (fun c94 => ?_)
    · refine ev_iconst dX6_hasHeight_111 ?_
      exact em_zret dX6_hasHeight_112 (by omega) ⟨by rw [hval], _, rfl, by unfold hasH; first | exact Or.inl ⟨rfl, fun q => by have q1 := q.1; have q2 := q.2; omega⟩ | exact Or.inr ⟨rfl, by omega, fun q => by omega⟩⟩
    · refine ev_lload dX6_hasHeight_98 rfl ?_
      refine ev_ldc2 (200000) kX6_82 dX6_hasHeight_100 (by decide) ?_
      refine ev_lcmp_eq 111 dX6_hasHeight_103 dX6_hasHeight_104 (by omega) (by omega) (fun c103 => ?_) (fun c103 => ?_)
      · refine ev_iconst dX6_hasHeight_111 ?_
        exact em_zret dX6_hasHeight_112 (by omega) ⟨by rw [hval], _, rfl, by unfold hasH; first | exact Or.inl ⟨rfl, fun q => by have q1 := q.1; have q2 := q.2; omega⟩ | exact Or.inr ⟨rfl, by omega, fun q => by omega⟩⟩
      · refine ev_iconst dX6_hasHeight_107 ?_
        refine ev_goto 112 dX6_hasHeight_108 ?_
        exact em_zret dX6_hasHeight_112 (by omega) ⟨by rw [hval], _, rfl, by unfold hasH; first | exact Or.inl ⟨rfl, fun q => by have q1 := q.1; have q2 := q.2; omega⟩ | exact Or.inr ⟨rfl, by omega, fun q => by omega⟩⟩
  · refine ev_lload dX6_hasHeight_47 rfl ?_
    refine ev_goto 67 dX6_hasHeight_49 ?_
    have hval : hV (M (2 + 2 * i + 1)) sh (M 53 6) = M (2 + 2 * i + 1) (hI sh (M 53 6)) * (M 53 6 - hR sh (M 53 6)) + M (2 + 2 * i + 1) (hI sh (M 53 6)) * hR sh (M 53 6) := by unfold hV; rw [if_pos (by omega)]
    refine ev_lstore dX6_hasHeight_67 (by decide) ?_
    refine ev_ls [some (vR _), some (vI _), some (vL _), none, some (vI _), some (vL _), none, some (vL _), none, some (vL _), none] rfl ?_
    refine ev_aload_n dX6_hasHeight_69 rfl ?_
    refine ev_lload dX6_hasHeight_70 rfl ?_
    refine ev_aload_n dX6_hasHeight_72 rfl ?_
    refine em_getL fX6_69.g dX6_hasHeight_73 lay_53 rfl ?_
    refine ev_lload dX6_hasHeight_76 rfl ?_
    refine ev_lsub dX6_hasHeight_78 ?_
    refine ev_lmul dX6_hasHeight_79 ?_
    refine ev_lload dX6_hasHeight_80 rfl ?_
    refine ev_lload dX6_hasHeight_82 rfl ?_
    refine ev_lmul dX6_hasHeight_84 ?_
    refine ev_ladd dX6_hasHeight_85 ?_
    refine em_putL fX6_79 dX6_hasHeight_86 lay_53 rfl ?_
    refine ev_lload dX6_hasHeight_89 rfl ?_
    refine ev_ldc2 (200000) kX6_82 dX6_hasHeight_91 (by decide) ?_
    refine ev_lcmp_eq 111 dX6_hasHeight_94 dX6_hasHeight_95 (by omega) (by omega) (fun c94 => ?_) (fun c94 => ?_)
    · refine ev_iconst dX6_hasHeight_111 ?_
      exact em_zret dX6_hasHeight_112 (by omega) ⟨by rw [hval], _, rfl, by unfold hasH; first | exact Or.inl ⟨rfl, fun q => by have q1 := q.1; have q2 := q.2; omega⟩ | exact Or.inr ⟨rfl, by omega, fun q => by omega⟩⟩
    · refine ev_lload dX6_hasHeight_98 rfl ?_
      refine ev_ldc2 (200000) kX6_82 dX6_hasHeight_100 (by decide) ?_
      refine ev_lcmp_eq 111 dX6_hasHeight_103 dX6_hasHeight_104 (by omega) (by omega) (fun c103 => ?_) (fun c103 => ?_)
      · refine ev_iconst dX6_hasHeight_111 ?_
        exact em_zret dX6_hasHeight_112 (by omega) ⟨by rw [hval], _, rfl, by unfold hasH; first | exact Or.inl ⟨rfl, fun q => by have q1 := q.1; have q2 := q.2; omega⟩ | exact Or.inr ⟨rfl, by omega, fun q => by omega⟩⟩
      · refine ev_iconst dX6_hasHeight_107 ?_
        refine ev_goto 112 dX6_hasHeight_108 ?_
        exact em_zret dX6_hasHeight_112 (by omega) ⟨by rw [hval], _, rfl, by unfold hasH; first | exact Or.inl ⟨rfl, fun q => by have q1 := q.1; have q2 := q.2; omega⟩ | exact Or.inr ⟨rfl, by omega, fun q => by omega⟩⟩
