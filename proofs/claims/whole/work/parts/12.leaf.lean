set_option maxRecDepth 100000 in
set_option maxHeartbeats 4000000 in
theorem c_isWithin (l : Launch) (M : Mem) {a b c : Int} (ha : i32 a) (hb : i32 b) (hc : i32 c) : Cm l yX5_isWithin cX5_isWithin 3 (some .boolean) 0 0 [vI a, vI b, vI c] M (rB (b ≤ a ∧ a ≤ c) M) := by
  refine cmo [some (vI a), some (vI b), some (vI c)] ?_
  refine ev_iload_n dX5_isWithin_0 rfl ?_
  refine ev_iload_n dX5_isWithin_1 rfl ?_
  refine ev_icmp_lt 14 dX5_isWithin_2 (by omega) (by omega) (fun c2 => ?_) (fun c2 => ?_)
  · refine ev_iconst dX5_isWithin_14 ?_
    exact em_zret dX5_isWithin_15 (by omega) ⟨rfl, _, rfl, by omega⟩
  · refine ev_iload_n dX5_isWithin_5 rfl ?_
    refine ev_iload_n dX5_isWithin_6 rfl ?_
    refine ev_icmp_gt 14 dX5_isWithin_7 (by omega) (by omega) (fun c7 => ?_) (fun c7 => ?_)
    · refine ev_iconst dX5_isWithin_14 ?_
      exact em_zret dX5_isWithin_15 (by omega) ⟨rfl, _, rfl, by omega⟩
    · refine ev_iconst dX5_isWithin_10 ?_
      refine ev_goto 15 dX5_isWithin_11 ?_
      exact em_zret dX5_isWithin_15 (by omega) ⟨rfl, _, rfl, by omega⟩
set_option maxRecDepth 100000 in
set_option maxHeartbeats 4000000 in
theorem c_isOnMap (l : Launch) (M : Mem) {a : Int} (ha : i32 a) : Cm l yX5_isOnMap cX5_isOnMap 1 (some .boolean) 1 22 [vI a] M (rB (-100 ≤ a ∧ a ≤ 100) M) := by
  refine cmo [some (vI a)] ?_
  refine ev_iload_n dX5_isOnMap_0 rfl ?_
  refine ev_bipush dX5_isOnMap_1 (by decide) ?_
  refine ev_bipush dX5_isOnMap_3 (by decide) ?_
  refine em_S3 (c_isWithin l _ (by omega) (by omega) (by omega)) mX5_57 dX5_isOnMap_5 ?_
  rintro r M ⟨rfl, z5, rfl, h5⟩
  exact em_zret dX5_isOnMap_8 (by omega) ⟨rfl, _, rfl, by omega⟩
set_option maxRecDepth 100000 in
set_option maxHeartbeats 4000000 in
theorem c_isPart (l : Launch) (M : Mem) {a : Int} (ha : i32 a) : Cm l yX5_isPart cX5_isPart 1 (some .boolean) 0 0 [vI a] M (rB (a = 0 ∨ a = 1) M) := by
  refine cmo [some (vI a)] ?_
  refine ev_iload_n dX5_isPart_0 rfl ?_
  refine ev_if_eq 9 dX5_isPart_1 (by omega) (fun c1 => ?_) (fun c1 => ?_)
  · refine ev_iconst dX5_isPart_9 ?_
    refine ev_goto 14 dX5_isPart_10 ?_
    exact em_zret dX5_isPart_14 (by omega) ⟨rfl, _, rfl, by omega⟩
  · refine ev_iload_n dX5_isPart_4 rfl ?_
    refine ev_iconst dX5_isPart_5 ?_
    refine ev_icmp_ne 13 dX5_isPart_6 (by omega) (by omega) (fun c6 => ?_) (fun c6 => ?_)
    · refine ev_iconst dX5_isPart_13 ?_
      exact em_zret dX5_isPart_14 (by omega) ⟨rfl, _, rfl, by omega⟩
    · refine ev_iconst dX5_isPart_9 ?_
      refine ev_goto 14 dX5_isPart_10 ?_
      exact em_zret dX5_isPart_14 (by omega) ⟨rfl, _, rfl, by omega⟩
set_option maxRecDepth 100000 in
set_option maxHeartbeats 4000000 in
theorem c_isTrack (l : Launch) {M : Mem} {a : Int} (ha : i32 a) (hT : i32 (M 0 5)) : Cm l yX5_isTrack cX5_isTrack 2 (some .boolean) 0 0 [vR 0, vI a] M (rB (0 ≤ a ∧ a < M 0 5) M) := by
  refine cmo [some (vR 0), some (vI a)] ?_
  refine ev_iload_n dX5_isTrack_0 rfl ?_
  refine ev_if_lt 16 dX5_isTrack_1 (by omega) (fun c1 => ?_) (fun c1 => ?_)
  · refine ev_iconst dX5_isTrack_16 ?_
    exact em_zret dX5_isTrack_17 (by omega) ⟨rfl, _, rfl, by omega⟩
  · refine ev_iload_n dX5_isTrack_4 rfl ?_
    refine ev_aload_n dX5_isTrack_5 rfl ?_
    refine em_getI fX5_44.g dX5_isTrack_6 lay_0 rfl ?_
    refine ev_icmp_ge 16 dX5_isTrack_9 (by omega) (by omega) (fun c9 => ?_) (fun c9 => ?_)
    · refine ev_iconst dX5_isTrack_16 ?_
      exact em_zret dX5_isTrack_17 (by omega) ⟨rfl, _, rfl, by omega⟩
    · refine ev_iconst dX5_isTrack_12 ?_
      refine ev_goto 17 dX5_isTrack_13 ?_
      exact em_zret dX5_isTrack_17 (by omega) ⟨rfl, _, rfl, by omega⟩
set_option maxRecDepth 100000 in
set_option maxHeartbeats 4000000 in
theorem c_areTwoTracks (l : Launch) {M : Mem} {a b : Int} (ha : i32 a) (hb : i32 b) (hT : i32 (M 0 5)) : Cm l yX5_areTwoTracks cX5_areTwoTracks 3 (some .boolean) 1 21 [vR 0, vI a, vI b] M (rB ((0 ≤ a ∧ a < M 0 5) ∧ (0 ≤ b ∧ b < M 0 5) ∧ a ≠ b) M) := by
  refine cmo [some (vR 0), some (vI a), some (vI b)] ?_
  refine ev_aload_n dX5_areTwoTracks_0 rfl ?_
  refine ev_iload_n dX5_areTwoTracks_1 rfl ?_
  refine em_V1 (c_isTrack l (by omega) (by omega)) mX5_69 dX5_areTwoTracks_2 lay_0 ?_
  rintro r M ⟨rfl, z2, rfl, h2⟩
  refine ev_if_eq 25 dX5_areTwoTracks_5 (by omega) (fun c5 => ?_) (fun c5 => ?_)
  · refine ev_iconst dX5_areTwoTracks_25 ?_
    exact em_zret dX5_areTwoTracks_26 (by omega) ⟨rfl, _, rfl, by omega⟩
  · refine ev_aload_n dX5_areTwoTracks_8 rfl ?_
    refine ev_iload_n dX5_areTwoTracks_9 rfl ?_
    refine em_V1 (c_isTrack l (by omega) (by omega)) mX5_69 dX5_areTwoTracks_10 lay_0 ?_
    rintro r M ⟨rfl, z10, rfl, h10⟩
    refine ev_if_eq 25 dX5_areTwoTracks_13 (by omega) (fun c13 => ?_) (fun c13 => ?_)
    · refine ev_iconst dX5_areTwoTracks_25 ?_
      exact em_zret dX5_areTwoTracks_26 (by omega) ⟨rfl, _, rfl, by omega⟩
    · refine ev_iload_n dX5_areTwoTracks_16 rfl ?_
      refine ev_iload_n dX5_areTwoTracks_17 rfl ?_
      refine ev_icmp_eq 25 dX5_areTwoTracks_18 (by omega) (by omega) (fun c18 => ?_) (fun c18 => ?_)
      · refine ev_iconst dX5_areTwoTracks_25 ?_
        exact em_zret dX5_areTwoTracks_26 (by omega) ⟨rfl, _, rfl, by omega⟩
      · refine ev_iconst dX5_areTwoTracks_21 ?_
        refine ev_goto 26 dX5_areTwoTracks_22 ?_
        exact em_zret dX5_areTwoTracks_26 (by omega) ⟨rfl, _, rfl, by omega⟩
set_option maxRecDepth 100000 in
set_option maxHeartbeats 4000000 in
theorem c_has (l : Launch) {M : Mem} {a : Int} (ha : i32 a) (hT : i32 (M 50 1)) : Cm l yX3_has cX3_has 2 (some .boolean) 0 0 [vR 50, vI a] M (rB (0 ≤ a ∧ a < M 50 1) M) := by
  refine cmo [some (vR 50), some (vI a)] ?_
  refine ev_iload_n dX3_has_0 rfl ?_
  refine ev_if_lt 16 dX3_has_1 (by omega) (fun c1 => ?_) (fun c1 => ?_)
  · refine ev_iconst dX3_has_16 ?_
    exact em_zret dX3_has_17 (by omega) ⟨rfl, _, rfl, by omega⟩
  · refine ev_iload_n dX3_has_4 rfl ?_
    refine ev_aload_n dX3_has_5 rfl ?_
    refine em_getI fX3_15.g dX3_has_6 lay_50 rfl ?_
    refine ev_icmp_ge 16 dX3_has_9 (by omega) (by omega) (fun c9 => ?_) (fun c9 => ?_)
    · refine ev_iconst dX3_has_16 ?_
      exact em_zret dX3_has_17 (by omega) ⟨rfl, _, rfl, by omega⟩
    · refine ev_iconst dX3_has_12 ?_
      refine ev_goto 17 dX3_has_13 ?_
      exact em_zret dX3_has_17 (by omega) ⟨rfl, _, rfl, by omega⟩
set_option maxRecDepth 100000 in
set_option maxHeartbeats 4000000 in
theorem c_mmin (l : Launch) (M : Mem) {a b : Int} (ha : i32 a) (hb : i32 b) : Cm l yJ9_min_7cf53 cJ9_min_7cf53 2 (some .int) 0 0 [vI a, vI b] M (rI (min a b) M) := by
  refine cmoF [some (vI a), some (vI b)] ?_
  refine ev_iload_n dJ9_min_7cf53_0 rfl ?_
  refine ev_iload_n dJ9_min_7cf53_1 rfl ?_
  refine ev_icmp_gt 9 dJ9_min_7cf53_2 (by omega) (by omega) (fun c2 => ?_) (fun c2 => ?_)
  · refine ev_iload_n dJ9_min_7cf53_9 rfl ?_
    exact em_iret dJ9_min_7cf53_10 ⟨rfl, by congr 2; omega⟩
  · refine ev_iload_n dJ9_min_7cf53_5 rfl ?_
    refine ev_goto 10 dJ9_min_7cf53_6 ?_
    exact em_iret dJ9_min_7cf53_10 ⟨rfl, by congr 2; omega⟩
set_option maxRecDepth 100000 in
set_option maxHeartbeats 4000000 in
theorem c_mmax (l : Launch) (M : Mem) {a b : Int} (ha : i32 a) (hb : i32 b) : Cm l yJ9_max_7cf53 cJ9_max_7cf53 2 (some .int) 0 0 [vI a, vI b] M (rI (max a b) M) := by
  refine cmoF [some (vI a), some (vI b)] ?_
  refine ev_iload_n dJ9_max_7cf53_0 rfl ?_
  refine ev_iload_n dJ9_max_7cf53_1 rfl ?_
  refine ev_icmp_lt 9 dJ9_max_7cf53_2 (by omega) (by omega) (fun c2 => ?_) (fun c2 => ?_)
  · refine ev_iload_n dJ9_max_7cf53_9 rfl ?_
    exact em_iret dJ9_max_7cf53_10 ⟨rfl, by congr 2; omega⟩
  · refine ev_iload_n dJ9_max_7cf53_5 rfl ?_
    refine ev_goto 10 dJ9_max_7cf53_6 ?_
    exact em_iret dJ9_max_7cf53_10 ⟨rfl, by congr 2; omega⟩
set_option maxRecDepth 100000 in
set_option maxHeartbeats 4000000 in
theorem c_mabs (l : Launch) (M : Mem) {a : Int} (ha : i64 a) : Cm l yJ9_abs_067f4 cJ9_abs_067f4 2 (some .long) 0 0 [vL a] M (rL (if a < 0 then -a else a) M) := by
  refine cmoF [some (vL a), none] ?_
  refine ev_lload_n dJ9_abs_067f4_0 rfl ?_
  refine ev_lconst0 dJ9_abs_067f4_1 ?_
  refine ev_lcmp_ge 11 dJ9_abs_067f4_2 dJ9_abs_067f4_3 (by omega) (by omega) (fun c2 => ?_) (fun c2 => ?_)
  · refine ev_lload_n dJ9_abs_067f4_11 rfl ?_
    exact em_lret dJ9_abs_067f4_12 ⟨rfl, by congr 3; split <;> omega⟩
  · refine ev_lload_n dJ9_abs_067f4_6 rfl ?_
    refine ev_lneg dJ9_abs_067f4_7 ?_
    refine ev_goto 12 dJ9_abs_067f4_8 ?_
    exact em_lret dJ9_abs_067f4_12 ⟨rfl, by congr 3; split <;> omega⟩
theorem xs32 (x y : Int32) : (0 ≤ x ^^^ y) ↔ ((x.toInt < 0) ↔ (y.toInt < 0)) := by
  have h1 := BitVec.msb_xor (x := x.toBitVec) (y := y.toBitVec)
  rw [BitVec.msb_eq_toInt, BitVec.msb_eq_toInt, BitVec.msb_eq_toInt] at h1
  have e1 : (x ^^^ y).toInt = (x.toBitVec ^^^ y.toBitVec).toInt := rfl
  have e2 : x.toInt = x.toBitVec.toInt := rfl
  have e3 : y.toInt = y.toBitVec.toInt := rfl
  rw [Int32.le_iff_toInt_le, e1, e2, e3, pm_z32]
  generalize (x.toBitVec ^^^ y.toBitVec).toInt = u at h1 ⊢
  by_cases hu : u < 0 <;> by_cases a : x.toBitVec.toInt < 0 <;> by_cases b : y.toBitVec.toInt < 0 <;> first | omega | (simp only [hu, a, b, decide_true, decide_false] at h1; exact absurd h1 (by decide))
theorem xs64 (x y : Int64) : (0 ≤ x ^^^ y) ↔ ((x.toInt < 0) ↔ (y.toInt < 0)) := by
  have h1 := BitVec.msb_xor (x := x.toBitVec) (y := y.toBitVec)
  rw [BitVec.msb_eq_toInt, BitVec.msb_eq_toInt, BitVec.msb_eq_toInt] at h1
  have e1 : (x ^^^ y).toInt = (x.toBitVec ^^^ y.toBitVec).toInt := rfl
  have e2 : x.toInt = x.toBitVec.toInt := rfl
  have e3 : y.toInt = y.toBitVec.toInt := rfl
  have e0 : (0 : Int64).toInt = 0 := by decide
  rw [Int64.le_iff_toInt_le, e1, e2, e3, e0]
  generalize (x.toBitVec ^^^ y.toBitVec).toInt = u at h1 ⊢
  by_cases hu : u < 0 <;> by_cases a : x.toBitVec.toInt < 0 <;> by_cases b : y.toBitVec.toInt < 0 <;> first | omega | (simp only [hu, a, b, decide_true, decide_false] at h1; exact absurd h1 (by decide))
section XR
variable {l : Launch} {y : MethodName} {cc : ByteArray} {nL : Nat} {rt : Option FieldType} {R : Room} {E : EE} {Z : ZZ} {n0 pc : Nat} {ls : List (Option PV)} {st : List PV} {n ce sl : Nat} {h : HP}
theorem ev_ixor_ge {off : Int} (tgt : Nat) {a b : Int} (hd0 : decode cc pc = .ok (.ixor, 1)) (hd : decode cc (pc + 1) = .ok (.ifCond .ge off, 3)) (ha : i32 a) (hb : i32 b) (kt : (a < 0 ↔ b < 0) → Ev l y cc nL rt R E Z n0 tgt ls st n ce sl h) (kf : ¬ (a < 0 ↔ b < 0) → Ev l y cc nL rt R E Z n0 (pc + 1 + 3) ls st n ce sl h) (ht : ((pc + 1 : Nat) : Int) + off = (tgt : Int) := by decide) : Ev l y cc nL rt R E Z n0 pc ls (vI b :: vI a :: st) n ce sl h :=
  ev_BRN (P := (a < 0 ↔ b < 0)) (fun ad C hl kt kf => lv_ixor C.1 C.2.1 hd0 (lv_if_ge C.1 C.2.1 hd ht (fun q => kt (by rw [xs32, pm_r32 ha, pm_r32 hb] at q; exact q)) (fun q => kf (fun z => q (by rw [xs32, pm_r32 ha, pm_r32 hb]; exact z))))) kt kf
theorem ev_lxor_ge {off : Int} (tgt : Nat) {a b : Int} (hd0 : decode cc pc = .ok (.lxor, 1)) (hd1 : decode cc (pc + 1) = .ok (.lconst 0, 1)) (hd2 : decode cc (pc + 1 + 1) = .ok (.lcmp, 1)) (hd : decode cc (pc + 1 + 1 + 1) = .ok (.ifCond .ge off, 3)) (ha : i64 a) (hb : i64 b) (kt : (a < 0 ↔ b < 0) → Ev l y cc nL rt R E Z n0 tgt ls st n ce sl h) (kf : ¬ (a < 0 ↔ b < 0) → Ev l y cc nL rt R E Z n0 (pc + 1 + 1 + 1 + 3) ls st n ce sl h) (ht : ((pc + 1 + 1 + 1 : Nat) : Int) + off = (tgt : Int) := by decide) : Ev l y cc nL rt R E Z n0 pc ls (vL b :: vL a :: st) n ce sl h :=
  ev_BRN (P := (a < 0 ↔ b < 0)) (fun ad C hl kt kf => lv_lxor C.1 C.2.1 hd0 (lv_lconst C.1 C.2.1 hd1 (v := 0) (by decide) (W.lcmp C.1 C.2.1 hd2 (lv_if_ge C.1 C.2.1 hd ht (fun q => kt (by rw [lg_cmp_ge, xs64, pm_r64 ha, pm_r64 hb] at q; exact q)) (fun q => kf (fun z => q (by rw [lg_cmp_ge, xs64, pm_r64 ha, pm_r64 hb]; exact z))))))) kt kf
end XR
theorem fd_pos {a b : Int} (hb : 0 < b) : a / b = if (a < 0 ∧ a.tdiv b * b ≠ a) then a.tdiv b - 1 else a.tdiv b := by
  have e := Int.tmod_add_tdiv_mul a b
  by_cases ha : a < 0
  · have h1 : a.tmod b ≤ 0 := by
      have := Int.tmod_nonneg (a := -a) b (by omega)
      rw [Int.neg_tmod] at this
      omega
    have h2 : -b < a.tmod b := Int.lt_tmod_of_pos a hb
    by_cases h0 : a.tmod b = 0
    · rw [if_neg (by omega)]
      exact ((Int.ediv_emod_unique (r := 0) (q := a.tdiv b) hb).mpr ⟨by rw [Int.mul_comm]; omega, by omega, by omega⟩).1
    · rw [if_pos ⟨ha, by omega⟩]
      exact ((Int.ediv_emod_unique (r := a.tmod b + b) (q := a.tdiv b - 1) hb).mpr ⟨by rw [Int.mul_sub, Int.mul_comm b]; omega, by omega, by omega⟩).1
  · rw [if_neg (by omega), Int.tdiv_eq_ediv_of_nonneg (by omega)]
theorem tdiv_le {a b : Int} (hb : 0 < b) : -(if a < 0 then -a else a) ≤ a.tdiv b ∧ a.tdiv b ≤ (if a < 0 then -a else a) := by
  have e := Int.natAbs_tdiv_le_natAbs a b
  split <;> omega
set_option maxRecDepth 100000 in
set_option maxHeartbeats 4000000 in
theorem c_fdL (l : Launch) (M : Mem) {a b : Int} (ha : -9223372036854775808 < a ∧ a < 9223372036854775808) (hb : 0 < b) (hb2 : b < 9223372036854775808) : Cm l yJ9_floorDiv_f86c9 cJ9_floorDiv_f86c9 6 (some .long) 0 0 [vL a, vL b] M (rL (a / b) M) := by
  have hf := fd_pos (a := a) hb
  have ht := tdiv_le (a := a) hb
  have he := Int.tmod_add_tdiv_mul a b
  have hm := tmod_bounds (a := a) hb
  have hs : (0 ≤ a → 0 ≤ a.tmod b) ∧ (a < 0 → a.tmod b ≤ 0) := ⟨fun h => Int.tmod_nonneg b h, fun h => by have := Int.tmod_nonneg (a := -a) b (by omega); rw [Int.neg_tmod] at this; omega⟩
  have hq : i64 (a.tdiv b) := by split at ht <;> omega
  rw [hf]
  refine cmoF [some (vL a), none, some (vL b), none, none, none] ?_
  refine ev_lload_n dJ9_floorDiv_f86c9_0 rfl ?_
  refine ev_lload_n dJ9_floorDiv_f86c9_1 rfl ?_
  refine ev_ldiv dJ9_floorDiv_f86c9_2 (by omega) (by omega) (by omega) ?_
  refine ev_lstore dJ9_floorDiv_f86c9_3 (by decide) ?_
  refine ev_ls [some (vL _), none, some (vL _), none, some (vL _), none] rfl ?_
  refine ev_lload_n dJ9_floorDiv_f86c9_5 rfl ?_
  refine ev_lload_n dJ9_floorDiv_f86c9_6 rfl ?_
  refine ev_lxor_ge 27 dJ9_floorDiv_f86c9_7 dJ9_floorDiv_f86c9_8 dJ9_floorDiv_f86c9_9 dJ9_floorDiv_f86c9_10 (by omega) (by omega) (fun c1 => ?_) (fun c1 => ?_)
  · refine ev_lload dJ9_floorDiv_f86c9_27 rfl ?_
    exact em_lret dJ9_floorDiv_f86c9_29 ⟨rfl, by rw [if_neg (by omega)]⟩
  · refine ev_lload dJ9_floorDiv_f86c9_13 rfl ?_
    refine ev_lload_n dJ9_floorDiv_f86c9_15 rfl ?_
    refine ev_lmul dJ9_floorDiv_f86c9_16 ?_
    refine ev_lload_n dJ9_floorDiv_f86c9_17 rfl ?_
    refine ev_lcmp_eq 27 dJ9_floorDiv_f86c9_18 dJ9_floorDiv_f86c9_19 (by omega) (by omega) (fun c2 => ?_) (fun c2 => ?_)
    · refine ev_lload dJ9_floorDiv_f86c9_27 rfl ?_
      exact em_lret dJ9_floorDiv_f86c9_29 ⟨rfl, by rw [if_neg (by omega)]⟩
    · refine ev_lload dJ9_floorDiv_f86c9_22 rfl ?_
      refine ev_lconst1 dJ9_floorDiv_f86c9_24 ?_
      refine ev_lsub dJ9_floorDiv_f86c9_25 ?_
      exact em_lret dJ9_floorDiv_f86c9_26 ⟨rfl, by rw [if_pos (by omega)]⟩
set_option maxRecDepth 100000 in
set_option maxHeartbeats 4000000 in
theorem c_fdI (l : Launch) (M : Mem) {a b : Int} (ha : -2147483648 < a ∧ a < 2147483648) (hb : 0 < b) (hb2 : b < 2147483648) : Cm l yJ9_floorDiv_7cf53 cJ9_floorDiv_7cf53 3 (some .int) 0 0 [vI a, vI b] M (rI (a / b) M) := by
  have hf := fd_pos (a := a) hb
  have ht := tdiv_le (a := a) hb
  have he := Int.tmod_add_tdiv_mul a b
  have hm := tmod_bounds (a := a) hb
  have hs : (0 ≤ a → 0 ≤ a.tmod b) ∧ (a < 0 → a.tmod b ≤ 0) := ⟨fun h => Int.tmod_nonneg b h, fun h => by have := Int.tmod_nonneg (a := -a) b (by omega); rw [Int.neg_tmod] at this; omega⟩
  have hq : i64 (a.tdiv b) := by split at ht <;> omega
  rw [hf]
  refine cmoF [some (vI a), some (vI b), none] ?_
  refine ev_iload_n dJ9_floorDiv_7cf53_0 rfl ?_
  refine ev_iload_n dJ9_floorDiv_7cf53_1 rfl ?_
  refine ev_idiv dJ9_floorDiv_7cf53_2 (by omega) (by omega) (by omega) ?_
  refine ev_istore_n dJ9_floorDiv_7cf53_3 (by decide) ?_
  refine ev_ls [some (vI _), some (vI _), some (vI _)] rfl ?_
  refine ev_iload_n dJ9_floorDiv_7cf53_4 rfl ?_
  refine ev_iload_n dJ9_floorDiv_7cf53_5 rfl ?_
  refine ev_ixor_ge 21 dJ9_floorDiv_7cf53_6 dJ9_floorDiv_7cf53_7 (by omega) (by omega) (fun c1 => ?_) (fun c1 => ?_)
  · refine ev_iload_n dJ9_floorDiv_7cf53_21 rfl ?_
    exact em_iret dJ9_floorDiv_7cf53_22 ⟨rfl, by rw [if_neg (by omega)]⟩
  · refine ev_iload_n dJ9_floorDiv_7cf53_10 rfl ?_
    refine ev_iload_n dJ9_floorDiv_7cf53_11 rfl ?_
    refine ev_imul dJ9_floorDiv_7cf53_12 ?_
    refine ev_iload_n dJ9_floorDiv_7cf53_13 rfl ?_
    refine ev_icmp_eq 21 dJ9_floorDiv_7cf53_14 (by omega) (by omega) (fun c2 => ?_) (fun c2 => ?_)
    · refine ev_iload_n dJ9_floorDiv_7cf53_21 rfl ?_
      exact em_iret dJ9_floorDiv_7cf53_22 ⟨rfl, by rw [if_neg (by omega)]⟩
    · refine ev_iload_n dJ9_floorDiv_7cf53_17 rfl ?_
      refine ev_iconst dJ9_floorDiv_7cf53_18 ?_
      refine ev_isub dJ9_floorDiv_7cf53_19 ?_
      exact em_iret dJ9_floorDiv_7cf53_20 ⟨rfl, by rw [if_pos (by omega)]⟩
