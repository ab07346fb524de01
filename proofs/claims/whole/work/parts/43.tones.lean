def fSeen (M0 : Mem) (N : Nat) (a r p : Int) : Int := if (0 ≤ a ∧ a < (N : Int)) ∧ (1 ≤ r ∧ r ≤ 1000000) ∧ (p = 0 ∨ p = 1) then (if dst (M0 1 a.toNat) r = 0 then -4 else frp (M0 1 a.toNat * r) (1000 * dst (M0 1 a.toNat) r) p) else -1
def tApart (p q r y : Int) : Prop := -((-(p * q * r)) / (1000 * y)) ≤ (if dst p r * q - dst q r * p < 0 then -(dst p r * q - dst q r * p) else dst p r * q - dst q r * p)
noncomputable def fApart (M0 : Mem) (N : Nat) (a b r y : Int) : Int := cif ((0 ≤ a ∧ a < (N : Int)) ∧ (0 ≤ b ∧ b < (N : Int)) ∧ a ≠ b ∧ (1 ≤ r ∧ r ≤ 1000000) ∧ (1 ≤ y ∧ y ≤ 100000)) (cif (tApart (M0 1 a.toNat) (M0 1 b.toNat) r y) 1 0) (-1)
theorem up_div {x b : Int} (hx : 0 ≤ x) (hb : 0 < b) : (x + b - 1).tdiv b = -((-x) / b) := by
  rw [Int.tdiv_eq_ediv_of_nonneg (by omega)]
  have e1 := Int.mul_ediv_add_emod (-x) b
  have e2 := Int.emod_nonneg (-x) (show b ≠ 0 by omega)
  have e3 := Int.emod_lt_of_pos (-x) hb
  have e4 : x + b - 1 = (b - 1 - (-x) % b) + b * (-((-x) / b)) := by grind
  rw [e4, Int.add_mul_ediv_left _ _ (by omega), Int.ediv_eq_zero_of_lt (by omega) (by omega)]
  omega
set_option maxRecDepth 100000 in
set_option maxHeartbeats 4000000 in
theorem c_seen (l : Launch) {M0 M : Mem} {T N : Nat} {c : Nat → Nat} (h : IV M0 T N c M) {a r p : Int} (ha : i32 a) (hr : i32 r) (hp : i32 p) : Cm l yX5_seen cX5_seen 6 (some .long) 2 58 [vR 0, vI a, vI r, vI p] M (fun r' M' => IV M0 T N c M' ∧ r' = some (vL (fSeen M0 N a r p))) := by
  refine cmo [some (vR 0), some (vI a), some (vI r), some (vI p), none, none] ?_
  have h6 := h.n6
  have h50 := h.n50
  have h534 := h.n53
  refine ev_aload_n dX5_seen_0 rfl ?_
  refine em_getR fX5_33.g dX5_seen_1 lay_0 rfl ?_
  refine ev_iload_n dX5_seen_4 rfl ?_
  refine em_V1 (c_has l (by omega) (by omega)) mX5_151 dX5_seen_5 lay_50 ?_
  rintro r M ⟨rfl, z5, rfl, h5⟩
  refine ev_if_eq 28 dX5_seen_8 (by omega) (fun c8 => ?_) (fun c8 => ?_)
  · refine ev_ldc2 (-1) kX5_154 dX5_seen_28 (by decide) ?_
    exact em_lret dX5_seen_31 ⟨h, by unfold fSeen; rw [if_neg (by omega)]⟩
  · refine ev_iload_n dX5_seen_11 rfl ?_
    refine ev_iconst dX5_seen_12 ?_
    refine ev_ldc (1000000) kX5_56 dX5_seen_13 (by decide) ?_
    refine em_S3 (c_isWithin l _ (by omega) (by omega) (by omega)) mX5_57 dX5_seen_15 ?_
    rintro r M ⟨rfl, z15, rfl, h15⟩
    refine ev_if_eq 28 dX5_seen_18 (by omega) (fun c18 => ?_) (fun c18 => ?_)
    · refine ev_ldc2 (-1) kX5_154 dX5_seen_28 (by decide) ?_
      exact em_lret dX5_seen_31 ⟨h, by unfold fSeen; rw [if_neg (by omega)]⟩
    · refine ev_iload_n dX5_seen_21 rfl ?_
      refine em_S1 (c_isPart l _ (by omega)) mX5_84 dX5_seen_22 ?_
      rintro r M ⟨rfl, z22, rfl, h22⟩
      refine ev_if_ne 32 dX5_seen_25 (by omega) (fun c25 => ?_) (fun c25 => ?_)
      · obtain ⟨i, rfl⟩ : ∃ i : Nat, a = (i : Int) := ⟨a.toNat, by omega⟩
        have hi : i < N := by omega
        have ep : M 51 i = M0 1 i := by rw [h.p51]
        have hpb := h.pb i hi
        have eF : fSeen M0 N (i : Int) r p = if dst (M0 1 i) r = 0 then -4 else frp (M0 1 i * r) (1000 * dst (M0 1 i) r) p := by unfold fSeen; rw [if_pos (by omega)]; rfl
        rw [eF]
        clear eF
        have hd := dst_bd (p := M0 1 i) (r := r) (by omega)
        have hm := mbz (x := M0 1 i) (z := r) (a := 1000000) (b := 1000000) (by omega) (by omega)
        refine ev_aload_n dX5_seen_32 rfl ?_
        refine em_getR fX5_33.g dX5_seen_33 lay_0 rfl ?_
        refine ev_iload_n dX5_seen_36 rfl ?_
        refine ev_iload_n dX5_seen_37 rfl ?_
        refine em_V2 (c_distance l (i := i) (by omega) (by omega) (by omega)) mX5_156 dX5_seen_38 lay_50 ?_
        rintro r M ⟨rfl, rfl⟩
        rw [ep]
        refine ev_lstore dX5_seen_41 (by decide) ?_
        refine ev_ls [some (vR _), some (vI _), some (vI _), some (vI _), some (vL _), none] rfl ?_
        refine ev_lload dX5_seen_43 rfl ?_
        refine ev_lconst0 dX5_seen_45 ?_
        refine ev_lcmp_ne 54 dX5_seen_46 dX5_seen_47 (by omega) (by omega) (fun c46 => ?_) (fun c46 => ?_)
        · refine ev_aload_n dX5_seen_54 rfl ?_
          refine em_getR fX5_40.g dX5_seen_55 lay_0 rfl ?_
          refine ev_aload_n dX5_seen_58 rfl ?_
          refine em_getR fX5_33.g dX5_seen_59 lay_0 rfl ?_
          refine em_getR fX5_148 dX5_seen_62 lay_50 rfl ?_
          refine ev_iload_n dX5_seen_65 rfl ?_
          refine en_iald i dX5_seen_66 lay_51 (by omega) (by omega) ?_
          rw [ep]
          refine ev_i2l dX5_seen_67 (by omega) ?_
          refine ev_iload_n dX5_seen_68 rfl ?_
          refine ev_i2l dX5_seen_69 (by omega) ?_
          refine ev_lmul dX5_seen_70 ?_
          refine ev_ldc2 (1000) kX5_162 dX5_seen_71 (by decide) ?_
          refine ev_lload dX5_seen_74 rfl ?_
          refine ev_lmul dX5_seen_76 ?_
          refine em_V2 (c_become l (by omega) lay_52 (by omega) (by omega)) mX5_108 dX5_seen_77 lay_52 ?_
          rintro r M2 ⟨rfl, rfl⟩
          refine ev_aload_n dX5_seen_80 rfl ?_
          refine em_getR fX5_40.g dX5_seen_81 lay_0 rfl ?_
          refine ev_iload_n dX5_seen_84 rfl ?_
          refine em_V1 (c_partOf l (r := 52) (by omega) lay_52 (by omega)) mX5_112 dX5_seen_85 lay_52 ?_
          rintro r M3 ⟨rfl, rfl⟩
          refine em_lret dX5_seen_88 ⟨h.c18 (fun k q1 q2 => by rw [up2_row _ _ _ _ q2, up2_row _ _ _ _ q2]), ?_⟩
          rw [if_neg (show ¬ dst (M0 1 i) r = 0 by omega), up2_same, up2_ne _ _ _ _ (Or.inr (by omega)), up2_same]
          unfold frp; by_cases q : p = 0
          · rw [if_pos q, if_pos q]
          · rw [if_neg q, if_neg q]
        · refine ev_ldc2 (-4) kX5_160 dX5_seen_50 (by decide) ?_
          exact em_lret dX5_seen_53 ⟨h, by rw [if_pos (show dst (M0 1 i) r = 0 by omega)]⟩
      · refine ev_ldc2 (-1) kX5_154 dX5_seen_28 (by decide) ?_
        exact em_lret dX5_seen_31 ⟨h, by unfold fSeen; rw [if_neg (by omega)]⟩
set_option maxRecDepth 100000 in
set_option maxHeartbeats 4000000 in
theorem d_seen (l : Launch) {M0 M : Mem} {T N : Nat} {c : Nat → Nat} (h : IV M0 T N c M) {a r p : Int} (ha : i32 a) (hr : i32 r) (hp : i32 p) : Cm l yX6_seen cX6_seen 6 (some .long) 2 53 [vR 53, vI a, vI r, vI p] M (fun r' M' => IV M0 T N c M' ∧ r' = some (vL (fSeen M0 N a r p))) := by
  refine cmo [some (vR 53), some (vI a), some (vI r), some (vI p), none, none] ?_
  have h6 := h.n6
  have h50 := h.n50
  have h534 := h.n53
  refine ev_aload_n dX6_seen_0 rfl ?_
  refine ev_iload_n dX6_seen_1 rfl ?_
  refine em_V1 (d_isTone l (by omega) (by omega)) mX6_162 dX6_seen_2 lay_53 ?_
  rintro r M ⟨rfl, z2, rfl, h2⟩
  refine ev_if_eq 30 dX6_seen_5 (by omega) (fun c5 => ?_) (fun c5 => ?_)
  · refine ev_ldc2 (-1) kX6_165 dX6_seen_30 (by decide) ?_
    exact em_lret dX6_seen_33 ⟨h, by unfold fSeen; rw [if_neg (by omega)]⟩
  · refine ev_iload_n dX6_seen_8 rfl ?_
    refine ev_i2l dX6_seen_9 (by omega) ?_
    refine ev_lconst1 dX6_seen_10 ?_
    refine ev_ldc2 (1000000) kX6_56 dX6_seen_11 (by decide) ?_
    refine em_S3 (d_in l _ (by omega) (by omega) (by omega)) mX6_44 dX6_seen_14 ?_
    rintro r M ⟨rfl, z14, rfl, h14⟩
    refine ev_if_eq 30 dX6_seen_17 (by omega) (fun c17 => ?_) (fun c17 => ?_)
    · refine ev_ldc2 (-1) kX6_165 dX6_seen_30 (by decide) ?_
      exact em_lret dX6_seen_33 ⟨h, by unfold fSeen; rw [if_neg (by omega)]⟩
    · refine ev_iload_n dX6_seen_20 rfl ?_
      refine ev_i2l dX6_seen_21 (by omega) ?_
      refine ev_lconst0 dX6_seen_22 ?_
      refine ev_lconst1 dX6_seen_23 ?_
      refine em_S3 (d_in l _ (by omega) (by omega) (by omega)) mX6_44 dX6_seen_24 ?_
      rintro r M ⟨rfl, z24, rfl, h24⟩
      refine ev_if_ne 34 dX6_seen_27 (by omega) (fun c27 => ?_) (fun c27 => ?_)
      · obtain ⟨i, rfl⟩ : ∃ i : Nat, a = (i : Int) := ⟨a.toNat, by omega⟩
        have hi : i < N := by omega
        have ep : M 57 i = M0 1 i := h.p57 i (by omega)
        have hpb := h.pb i hi
        have eF : fSeen M0 N (i : Int) r p = if dst (M0 1 i) r = 0 then -4 else frp (M0 1 i * r) (1000 * dst (M0 1 i) r) p := by unfold fSeen; rw [if_pos (by omega)]; rfl
        rw [eF]
        clear eF
        have hd := dst_bd (p := M0 1 i) (r := r) (by omega)
        have hm := mbz (x := M0 1 i) (z := r) (a := 1000000) (b := 1000000) (by omega) (by omega)
        refine ev_aload_n dX6_seen_34 rfl ?_
        refine em_getR fX6_20.g dX6_seen_35 lay_53 rfl ?_
        refine ev_iload_n dX6_seen_38 rfl ?_
        refine en_iald i dX6_seen_39 lay_57 (by omega) (by omega) ?_
        rw [ep]
        refine ev_i2l dX6_seen_40 (by omega) ?_
        refine ev_iload_n dX6_seen_41 rfl ?_
        refine ev_i2l dX6_seen_42 (by omega) ?_
        refine em_S2 (d_least l _ (by omega) (by omega)) mX6_167 dX6_seen_43 ?_
        rintro r M ⟨rfl, rfl⟩
        refine ev_lstore dX6_seen_46 (by decide) ?_
        refine ev_ls [some (vR _), some (vI _), some (vI _), some (vI _), some (vL _), none] rfl ?_
        refine ev_lload dX6_seen_48 rfl ?_
        refine ev_lconst0 dX6_seen_50 ?_
        refine ev_lcmp_ne 61 dX6_seen_51 dX6_seen_52 (by omega) (by omega) (fun c51 => ?_) (fun c51 => ?_)
        · refine ev_aload_n dX6_seen_61 rfl ?_
          refine em_getR fX6_20.g dX6_seen_62 lay_53 rfl ?_
          refine ev_iload_n dX6_seen_65 rfl ?_
          refine en_iald i dX6_seen_66 lay_57 (by omega) (by omega) ?_
          rw [ep]
          refine ev_i2l dX6_seen_67 (by omega) ?_
          refine ev_iload_n dX6_seen_68 rfl ?_
          refine ev_i2l dX6_seen_69 (by omega) ?_
          refine ev_lmul dX6_seen_70 ?_
          refine ev_ldc2 (1000) kX6_172 dX6_seen_71 (by decide) ?_
          refine ev_lload dX6_seen_74 rfl ?_
          refine ev_lmul dX6_seen_76 ?_
          refine ev_iload_n dX6_seen_77 rfl ?_
          refine em_S3 (d_part l _ (by omega) (by omega) (by omega)) mX6_101 dX6_seen_78 ?_
          rintro r M ⟨rfl, rfl⟩
          first | (exact em_lret dX6_seen_81 ⟨h, by rw [if_pos (show dst (M0 1 i) r = 0 by omega)]⟩) | (exact em_lret dX6_seen_81 ⟨h, by rw [if_neg (show ¬ dst (M0 1 i) r = 0 by omega)]; rfl⟩)
        · refine ev_ldc2 (-4) kX6_170 dX6_seen_55 (by decide) ?_
          refine ev_goto 81 dX6_seen_58 ?_
          first | (exact em_lret dX6_seen_81 ⟨h, by rw [if_pos (show dst (M0 1 i) r = 0 by omega)]⟩) | (exact em_lret dX6_seen_81 ⟨h, by rw [if_neg (show ¬ dst (M0 1 i) r = 0 by omega)]; rfl⟩)
      · refine ev_ldc2 (-1) kX6_165 dX6_seen_30 (by decide) ?_
        exact em_lret dX6_seen_33 ⟨h, by unfold fSeen; rw [if_neg (by omega)]⟩
set_option maxRecDepth 100000 in
set_option maxHeartbeats 4000000 in
theorem c_apart (l : Launch) {M0 M : Mem} {T N : Nat} {c : Nat → Nat} (h : IV M0 T N c M) {a b r y : Int} (ha : i32 a) (hb : i32 b) (hr : i32 r) (hy : i32 y) : Cm l yX5_apart cX5_apart 6 (some .int) 3 77 [vR 0, vI a, vI b, vI r, vI y] M (fun r' M' => IV M0 T N c M' ∧ r' = some (vI (fApart M0 N a b r y))) := by
  refine cmo [some (vR 0), some (vI a), some (vI b), some (vI r), some (vI y), none] ?_
  have h6 := h.n6
  have h50 := h.n50
  have h534 := h.n53
  refine ev_aload_n dX5_apart_0 rfl ?_
  refine em_getR fX5_33.g dX5_apart_1 lay_0 rfl ?_
  refine ev_iload_n dX5_apart_4 rfl ?_
  refine em_V1 (c_has l (by omega) (by omega)) mX5_151 dX5_apart_5 lay_50 ?_
  rintro r M ⟨rfl, z5, rfl, h5⟩
  refine ev_if_eq 31 dX5_apart_8 (by omega) (fun c8 => ?_) (fun c8 => ?_)
  · refine ev_iconst dX5_apart_31 ?_
    refine ev_istore dX5_apart_32 (by decide) ?_
    refine ev_ls [some (vR _), some (vI _), some (vI _), some (vI _), some (vI _), some (vI _)] rfl ?_
    refine ev_iload dX5_apart_34 rfl ?_
    refine ev_if_eq 60 dX5_apart_36 (by omega) (fun c36 => ?_) (fun c36 => ?_)
    · refine ev_iconst dX5_apart_60 ?_
      exact em_iret dX5_apart_61 ⟨h, by unfold fApart; rw [cif_neg (by omega)]⟩
    · refine ev_iload_n dX5_apart_39 rfl ?_
      refine ev_iconst dX5_apart_40 ?_
      refine ev_ldc (1000000) kX5_56 dX5_apart_41 (by decide) ?_
      refine em_S3 (c_isWithin l _ (by omega) (by omega) (by omega)) mX5_57 dX5_apart_43 ?_
      rintro r M ⟨rfl, z43, rfl, h43⟩
      refine ev_if_eq 60 dX5_apart_46 (by omega) (fun c46 => ?_) (fun c46 => ?_)
      · refine ev_iconst dX5_apart_60 ?_
        exact em_iret dX5_apart_61 ⟨h, by unfold fApart; rw [cif_neg (by omega)]⟩
      · refine ev_iload dX5_apart_49 rfl ?_
        refine ev_iconst dX5_apart_51 ?_
        refine ev_ldc (100000) kX5_164 dX5_apart_52 (by decide) ?_
        refine em_S3 (c_isWithin l _ (by omega) (by omega) (by omega)) mX5_57 dX5_apart_54 ?_
        rintro r M ⟨rfl, z54, rfl, h54⟩
        refine ev_if_ne 62 dX5_apart_57 (by omega) (fun c57 => ?_) (fun c57 => ?_)
        · have hne : a ≠ b := by omega
          obtain ⟨i, rfl⟩ : ∃ i : Nat, a = (i : Int) := ⟨a.toNat, by omega⟩
          have hi : i < N := by omega
          obtain ⟨j, rfl⟩ : ∃ j : Nat, b = (j : Int) := ⟨b.toNat, by omega⟩
          have hj : j < N := by omega
          have ep : M 51 i = M0 1 i := by rw [h.p51]
          have eq : M 51 j = M0 1 j := by rw [h.p51]
          have hpb := h.pb i hi
          have hqb := h.pb j hj
          have eF : fApart M0 N (i : Int) (j : Int) r y = cif (tApart (M0 1 i) (M0 1 j) r y) 1 0 := by unfold fApart; rw [cif_pos (by omega)]; rfl
          rw [eF]
          clear eF
          refine ev_aload_n dX5_apart_62 rfl ?_
          refine em_getR fX5_33.g dX5_apart_63 lay_0 rfl ?_
          refine ev_iload_n dX5_apart_66 rfl ?_
          refine ev_iload_n dX5_apart_67 rfl ?_
          refine ev_iload_n dX5_apart_68 rfl ?_
          refine ev_iload dX5_apart_69 rfl ?_
          refine em_V4 (c_areToldApart l (i := i) (j := j) (by omega) (by omega) (by omega) (by omega) (by omega) (by omega)) mX5_165 dX5_apart_71 lay_50 ?_
          rintro r M ⟨rfl, z71, rfl, h71⟩
          rw [ep, eq] at h71
          change (z71 = 0 ∧ ¬ tApart (M0 1 i) (M0 1 j) r y) ∨ (z71 = 1 ∧ tApart (M0 1 i) (M0 1 j) r y) at h71
          refine ev_if_eq 81 dX5_apart_74 (by omega) (fun c74 => ?_) (fun c74 => ?_)
          · refine ev_iconst dX5_apart_81 ?_
            exact em_iret dX5_apart_82 ⟨h, by rcases h71 with q | q <;> first | (exfalso; omega) | rw [cif_neg q.2] | rw [cif_pos q.2]⟩
          · refine ev_iconst dX5_apart_77 ?_
            refine ev_goto 82 dX5_apart_78 ?_
            exact em_iret dX5_apart_82 ⟨h, by rcases h71 with q | q <;> first | (exfalso; omega) | rw [cif_neg q.2] | rw [cif_pos q.2]⟩
        · refine ev_iconst dX5_apart_60 ?_
          exact em_iret dX5_apart_61 ⟨h, by unfold fApart; rw [cif_neg (by omega)]⟩
  · refine ev_aload_n dX5_apart_11 rfl ?_
    refine em_getR fX5_33.g dX5_apart_12 lay_0 rfl ?_
    refine ev_iload_n dX5_apart_15 rfl ?_
    refine em_V1 (c_has l (by omega) (by omega)) mX5_151 dX5_apart_16 lay_50 ?_
    rintro r M ⟨rfl, z16, rfl, h16⟩
    refine ev_if_eq 31 dX5_apart_19 (by omega) (fun c19 => ?_) (fun c19 => ?_)
    · refine ev_iconst dX5_apart_31 ?_
      refine ev_istore dX5_apart_32 (by decide) ?_
      refine ev_ls [some (vR _), some (vI _), some (vI _), some (vI _), some (vI _), some (vI _)] rfl ?_
      refine ev_iload dX5_apart_34 rfl ?_
      refine ev_if_eq 60 dX5_apart_36 (by omega) (fun c36 => ?_) (fun c36 => ?_)
      · refine ev_iconst dX5_apart_60 ?_
        exact em_iret dX5_apart_61 ⟨h, by unfold fApart; rw [cif_neg (by omega)]⟩
      · refine ev_iload_n dX5_apart_39 rfl ?_
        refine ev_iconst dX5_apart_40 ?_
        refine ev_ldc (1000000) kX5_56 dX5_apart_41 (by decide) ?_
        refine em_S3 (c_isWithin l _ (by omega) (by omega) (by omega)) mX5_57 dX5_apart_43 ?_
        rintro r M ⟨rfl, z43, rfl, h43⟩
        refine ev_if_eq 60 dX5_apart_46 (by omega) (fun c46 => ?_) (fun c46 => ?_)
        · refine ev_iconst dX5_apart_60 ?_
          exact em_iret dX5_apart_61 ⟨h, by unfold fApart; rw [cif_neg (by omega)]⟩
        · refine ev_iload dX5_apart_49 rfl ?_
          refine ev_iconst dX5_apart_51 ?_
          refine ev_ldc (100000) kX5_164 dX5_apart_52 (by decide) ?_
          refine em_S3 (c_isWithin l _ (by omega) (by omega) (by omega)) mX5_57 dX5_apart_54 ?_
          rintro r M ⟨rfl, z54, rfl, h54⟩
          refine ev_if_ne 62 dX5_apart_57 (by omega) (fun c57 => ?_) (fun c57 => ?_)
          · have hne : a ≠ b := by omega
            obtain ⟨i, rfl⟩ : ∃ i : Nat, a = (i : Int) := ⟨a.toNat, by omega⟩
            have hi : i < N := by omega
            obtain ⟨j, rfl⟩ : ∃ j : Nat, b = (j : Int) := ⟨b.toNat, by omega⟩
            have hj : j < N := by omega
            have ep : M 51 i = M0 1 i := by rw [h.p51]
            have eq : M 51 j = M0 1 j := by rw [h.p51]
            have hpb := h.pb i hi
            have hqb := h.pb j hj
            have eF : fApart M0 N (i : Int) (j : Int) r y = cif (tApart (M0 1 i) (M0 1 j) r y) 1 0 := by unfold fApart; rw [cif_pos (by omega)]; rfl
            rw [eF]
            clear eF
            refine ev_aload_n dX5_apart_62 rfl ?_
            refine em_getR fX5_33.g dX5_apart_63 lay_0 rfl ?_
            refine ev_iload_n dX5_apart_66 rfl ?_
            refine ev_iload_n dX5_apart_67 rfl ?_
            refine ev_iload_n dX5_apart_68 rfl ?_
            refine ev_iload dX5_apart_69 rfl ?_
            refine em_V4 (c_areToldApart l (i := i) (j := j) (by omega) (by omega) (by omega) (by omega) (by omega) (by omega)) mX5_165 dX5_apart_71 lay_50 ?_
            rintro r M ⟨rfl, z71, rfl, h71⟩
            rw [ep, eq] at h71
            change (z71 = 0 ∧ ¬ tApart (M0 1 i) (M0 1 j) r y) ∨ (z71 = 1 ∧ tApart (M0 1 i) (M0 1 j) r y) at h71
            refine ev_if_eq 81 dX5_apart_74 (by omega) (fun c74 => ?_) (fun c74 => ?_)
            · refine ev_iconst dX5_apart_81 ?_
              exact em_iret dX5_apart_82 ⟨h, by rcases h71 with q | q <;> first | (exfalso; omega) | rw [cif_neg q.2] | rw [cif_pos q.2]⟩
            · refine ev_iconst dX5_apart_77 ?_
              refine ev_goto 82 dX5_apart_78 ?_
              exact em_iret dX5_apart_82 ⟨h, by rcases h71 with q | q <;> first | (exfalso; omega) | rw [cif_neg q.2] | rw [cif_pos q.2]⟩
          · refine ev_iconst dX5_apart_60 ?_
            exact em_iret dX5_apart_61 ⟨h, by unfold fApart; rw [cif_neg (by omega)]⟩
    · refine ev_iload_n dX5_apart_22 rfl ?_
      refine ev_iload_n dX5_apart_23 rfl ?_
      refine ev_icmp_eq 31 dX5_apart_24 (by omega) (by omega) (fun c24 => ?_) (fun c24 => ?_)
      · refine ev_iconst dX5_apart_31 ?_
        refine ev_istore dX5_apart_32 (by decide) ?_
        refine ev_ls [some (vR _), some (vI _), some (vI _), some (vI _), some (vI _), some (vI _)] rfl ?_
        refine ev_iload dX5_apart_34 rfl ?_
        refine ev_if_eq 60 dX5_apart_36 (by omega) (fun c36 => ?_) (fun c36 => ?_)
        · refine ev_iconst dX5_apart_60 ?_
          exact em_iret dX5_apart_61 ⟨h, by unfold fApart; rw [cif_neg (by omega)]⟩
        · refine ev_iload_n dX5_apart_39 rfl ?_
          refine ev_iconst dX5_apart_40 ?_
          refine ev_ldc (1000000) kX5_56 dX5_apart_41 (by decide) ?_
          refine em_S3 (c_isWithin l _ (by omega) (by omega) (by omega)) mX5_57 dX5_apart_43 ?_
          rintro r M ⟨rfl, z43, rfl, h43⟩
          refine ev_if_eq 60 dX5_apart_46 (by omega) (fun c46 => ?_) (fun c46 => ?_)
          · refine ev_iconst dX5_apart_60 ?_
            exact em_iret dX5_apart_61 ⟨h, by unfold fApart; rw [cif_neg (by omega)]⟩
          · refine ev_iload dX5_apart_49 rfl ?_
            refine ev_iconst dX5_apart_51 ?_
            refine ev_ldc (100000) kX5_164 dX5_apart_52 (by decide) ?_
            refine em_S3 (c_isWithin l _ (by omega) (by omega) (by omega)) mX5_57 dX5_apart_54 ?_
            rintro r M ⟨rfl, z54, rfl, h54⟩
            refine ev_if_ne 62 dX5_apart_57 (by omega) (fun c57 => ?_) (fun c57 => ?_)
            · have hne : a ≠ b := by omega
              obtain ⟨i, rfl⟩ : ∃ i : Nat, a = (i : Int) := ⟨a.toNat, by omega⟩
              have hi : i < N := by omega
              obtain ⟨j, rfl⟩ : ∃ j : Nat, b = (j : Int) := ⟨b.toNat, by omega⟩
              have hj : j < N := by omega
              have ep : M 51 i = M0 1 i := by rw [h.p51]
              have eq : M 51 j = M0 1 j := by rw [h.p51]
              have hpb := h.pb i hi
              have hqb := h.pb j hj
              have eF : fApart M0 N (i : Int) (j : Int) r y = cif (tApart (M0 1 i) (M0 1 j) r y) 1 0 := by unfold fApart; rw [cif_pos (by omega)]; rfl
              rw [eF]
              clear eF
              refine ev_aload_n dX5_apart_62 rfl ?_
              refine em_getR fX5_33.g dX5_apart_63 lay_0 rfl ?_
              refine ev_iload_n dX5_apart_66 rfl ?_
              refine ev_iload_n dX5_apart_67 rfl ?_
              refine ev_iload_n dX5_apart_68 rfl ?_
              refine ev_iload dX5_apart_69 rfl ?_
              refine em_V4 (c_areToldApart l (i := i) (j := j) (by omega) (by omega) (by omega) (by omega) (by omega) (by omega)) mX5_165 dX5_apart_71 lay_50 ?_
              rintro r M ⟨rfl, z71, rfl, h71⟩
              rw [ep, eq] at h71
              change (z71 = 0 ∧ ¬ tApart (M0 1 i) (M0 1 j) r y) ∨ (z71 = 1 ∧ tApart (M0 1 i) (M0 1 j) r y) at h71
              refine ev_if_eq 81 dX5_apart_74 (by omega) (fun c74 => ?_) (fun c74 => ?_)
              · refine ev_iconst dX5_apart_81 ?_
                exact em_iret dX5_apart_82 ⟨h, by rcases h71 with q | q <;> first | (exfalso; omega) | rw [cif_neg q.2] | rw [cif_pos q.2]⟩
              · refine ev_iconst dX5_apart_77 ?_
                refine ev_goto 82 dX5_apart_78 ?_
                exact em_iret dX5_apart_82 ⟨h, by rcases h71 with q | q <;> first | (exfalso; omega) | rw [cif_neg q.2] | rw [cif_pos q.2]⟩
            · refine ev_iconst dX5_apart_60 ?_
              exact em_iret dX5_apart_61 ⟨h, by unfold fApart; rw [cif_neg (by omega)]⟩
      · refine ev_iconst dX5_apart_27 ?_
        refine ev_goto 32 dX5_apart_28 ?_
        refine ev_istore dX5_apart_32 (by decide) ?_
        refine ev_ls [some (vR _), some (vI _), some (vI _), some (vI _), some (vI _), some (vI _)] rfl ?_
        refine ev_iload dX5_apart_34 rfl ?_
        refine ev_if_eq 60 dX5_apart_36 (by omega) (fun c36 => ?_) (fun c36 => ?_)
        · refine ev_iconst dX5_apart_60 ?_
          exact em_iret dX5_apart_61 ⟨h, by unfold fApart; rw [cif_neg (by omega)]⟩
        · refine ev_iload_n dX5_apart_39 rfl ?_
          refine ev_iconst dX5_apart_40 ?_
          refine ev_ldc (1000000) kX5_56 dX5_apart_41 (by decide) ?_
          refine em_S3 (c_isWithin l _ (by omega) (by omega) (by omega)) mX5_57 dX5_apart_43 ?_
          rintro r M ⟨rfl, z43, rfl, h43⟩
          refine ev_if_eq 60 dX5_apart_46 (by omega) (fun c46 => ?_) (fun c46 => ?_)
          · refine ev_iconst dX5_apart_60 ?_
            exact em_iret dX5_apart_61 ⟨h, by unfold fApart; rw [cif_neg (by omega)]⟩
          · refine ev_iload dX5_apart_49 rfl ?_
            refine ev_iconst dX5_apart_51 ?_
            refine ev_ldc (100000) kX5_164 dX5_apart_52 (by decide) ?_
            refine em_S3 (c_isWithin l _ (by omega) (by omega) (by omega)) mX5_57 dX5_apart_54 ?_
            rintro r M ⟨rfl, z54, rfl, h54⟩
            refine ev_if_ne 62 dX5_apart_57 (by omega) (fun c57 => ?_) (fun c57 => ?_)
            · have hne : a ≠ b := by omega
              obtain ⟨i, rfl⟩ : ∃ i : Nat, a = (i : Int) := ⟨a.toNat, by omega⟩
              have hi : i < N := by omega
              obtain ⟨j, rfl⟩ : ∃ j : Nat, b = (j : Int) := ⟨b.toNat, by omega⟩
              have hj : j < N := by omega
              have ep : M 51 i = M0 1 i := by rw [h.p51]
              have eq : M 51 j = M0 1 j := by rw [h.p51]
              have hpb := h.pb i hi
              have hqb := h.pb j hj
              have eF : fApart M0 N (i : Int) (j : Int) r y = cif (tApart (M0 1 i) (M0 1 j) r y) 1 0 := by unfold fApart; rw [cif_pos (by omega)]; rfl
              rw [eF]
              clear eF
              refine ev_aload_n dX5_apart_62 rfl ?_
              refine em_getR fX5_33.g dX5_apart_63 lay_0 rfl ?_
              refine ev_iload_n dX5_apart_66 rfl ?_
              refine ev_iload_n dX5_apart_67 rfl ?_
              refine ev_iload_n dX5_apart_68 rfl ?_
              refine ev_iload dX5_apart_69 rfl ?_
              refine em_V4 (c_areToldApart l (i := i) (j := j) (by omega) (by omega) (by omega) (by omega) (by omega) (by omega)) mX5_165 dX5_apart_71 lay_50 ?_
              rintro r M ⟨rfl, z71, rfl, h71⟩
              rw [ep, eq] at h71
              change (z71 = 0 ∧ ¬ tApart (M0 1 i) (M0 1 j) r y) ∨ (z71 = 1 ∧ tApart (M0 1 i) (M0 1 j) r y) at h71
              refine ev_if_eq 81 dX5_apart_74 (by omega) (fun c74 => ?_) (fun c74 => ?_)
              · refine ev_iconst dX5_apart_81 ?_
                exact em_iret dX5_apart_82 ⟨h, by rcases h71 with q | q <;> first | (exfalso; omega) | rw [cif_neg q.2] | rw [cif_pos q.2]⟩
              · refine ev_iconst dX5_apart_77 ?_
                refine ev_goto 82 dX5_apart_78 ?_
                exact em_iret dX5_apart_82 ⟨h, by rcases h71 with q | q <;> first | (exfalso; omega) | rw [cif_neg q.2] | rw [cif_pos q.2]⟩
            · refine ev_iconst dX5_apart_60 ?_
              exact em_iret dX5_apart_61 ⟨h, by unfold fApart; rw [cif_neg (by omega)]⟩
set_option maxRecDepth 100000 in
set_option maxHeartbeats 4000000 in
theorem d_apart (l : Launch) {M0 M : Mem} {T N : Nat} {c : Nat → Nat} (h : IV M0 T N c M) {a b r y : Int} (ha : i32 a) (hb : i32 b) (hr : i32 r) (hy : i32 y) : Cm l yX6_apart cX6_apart 11 (some .int) 2 46 [vR 53, vI a, vI b, vI r, vI y] M (fun r' M' => IV M0 T N c M' ∧ r' = some (vI (fApart M0 N a b r y))) := by
  refine cmo [some (vR 53), some (vI a), some (vI b), some (vI r), some (vI y), none, none, none, none, none, none] ?_
  have h6 := h.n6
  have h50 := h.n50
  have h534 := h.n53
  refine ev_aload_n dX6_apart_0 rfl ?_
  refine ev_iload_n dX6_apart_1 rfl ?_
  refine em_V1 (d_isTone l (by omega) (by omega)) mX6_162 dX6_apart_2 lay_53 ?_
  rintro r M ⟨rfl, z2, rfl, h2⟩
  refine ev_if_eq 46 dX6_apart_5 (by omega) (fun c5 => ?_) (fun c5 => ?_)
  · refine ev_iconst dX6_apart_46 ?_
    exact em_iret dX6_apart_47 ⟨h, by unfold fApart; rw [cif_neg (by omega)]⟩
  · refine ev_aload_n dX6_apart_8 rfl ?_
    refine ev_iload_n dX6_apart_9 rfl ?_
    refine em_V1 (d_isTone l (by omega) (by omega)) mX6_162 dX6_apart_10 lay_53 ?_
    rintro r M ⟨rfl, z10, rfl, h10⟩
    refine ev_if_eq 46 dX6_apart_13 (by omega) (fun c13 => ?_) (fun c13 => ?_)
    · refine ev_iconst dX6_apart_46 ?_
      exact em_iret dX6_apart_47 ⟨h, by unfold fApart; rw [cif_neg (by omega)]⟩
    · refine ev_iload_n dX6_apart_16 rfl ?_
      refine ev_iload_n dX6_apart_17 rfl ?_
      refine ev_icmp_eq 46 dX6_apart_18 (by omega) (by omega) (fun c18 => ?_) (fun c18 => ?_)
      · refine ev_iconst dX6_apart_46 ?_
        exact em_iret dX6_apart_47 ⟨h, by unfold fApart; rw [cif_neg (by omega)]⟩
      · refine ev_iload_n dX6_apart_21 rfl ?_
        refine ev_i2l dX6_apart_22 (by omega) ?_
        refine ev_lconst1 dX6_apart_23 ?_
        refine ev_ldc2 (1000000) kX6_56 dX6_apart_24 (by decide) ?_
        refine em_S3 (d_in l _ (by omega) (by omega) (by omega)) mX6_44 dX6_apart_27 ?_
        rintro r M ⟨rfl, z27, rfl, h27⟩
        refine ev_if_eq 46 dX6_apart_30 (by omega) (fun c30 => ?_) (fun c30 => ?_)
        · refine ev_iconst dX6_apart_46 ?_
          exact em_iret dX6_apart_47 ⟨h, by unfold fApart; rw [cif_neg (by omega)]⟩
        · refine ev_iload dX6_apart_33 rfl ?_
          refine ev_i2l dX6_apart_35 (by omega) ?_
          refine ev_lconst1 dX6_apart_36 ?_
          refine ev_ldc2 (100000) kX6_174 dX6_apart_37 (by decide) ?_
          refine em_S3 (d_in l _ (by omega) (by omega) (by omega)) mX6_44 dX6_apart_40 ?_
          rintro r M ⟨rfl, z40, rfl, h40⟩
          refine ev_if_ne 48 dX6_apart_43 (by omega) (fun c43 => ?_) (fun c43 => ?_)
          · obtain ⟨i, rfl⟩ : ∃ i : Nat, a = (i : Int) := ⟨a.toNat, by omega⟩
            have hi : i < N := by omega
            obtain ⟨j, rfl⟩ : ∃ j : Nat, b = (j : Int) := ⟨b.toNat, by omega⟩
            have hj : j < N := by omega
            have ep : M 57 i = M0 1 i := h.p57 i (by omega)
            have eq : M 57 j = M0 1 j := h.p57 j (by omega)
            have hpb := h.pb i hi
            have hqb := h.pb j hj
            have eF : fApart M0 N (i : Int) (j : Int) r y = cif (tApart (M0 1 i) (M0 1 j) r y) 1 0 := by unfold fApart; rw [cif_pos (by omega)]; rfl
            rw [eF]
            clear eF
            generalize hP : M0 1 i = X at *
            generalize hQ : M0 1 j = Y at *
            have d1 := dst_bd (p := X) (r := r) (by omega)
            have d2 := dst_bd (p := Y) (r := r) (by omega)
            have p1 := mb (x := dst X r) (z := Y) 1000000 1000000 (by omega) (by omega)
            have p2 := mb (x := dst Y r) (z := X) 1000000 1000000 (by omega) (by omega)
            have p3 := mb (x := r) (z := X) 1000000 1000000 (by omega) (by omega)
            have p4 := mb (x := r * X) (z := Y) 1000000000000 1000000 (by omega) (by omega)
            have p5 : 0 ≤ r * X * Y := Int.mul_nonneg (Int.mul_nonneg (by omega) (by omega)) (by omega)
            have e5 : r * X * Y = X * Y * r := by grind
            have q0 := ed_bd (a := -(X * Y * r)) (b := 1000 * y) (c := 1000000000000000000) (by omega) (by omega) (by omega)
            have ud := up_div (x := X * Y * r) (b := 1000 * y) (by omega) (by omega)
            refine ev_aload_n dX6_apart_48 rfl ?_
            refine em_getR fX6_20.g dX6_apart_49 lay_53 rfl ?_
            refine ev_iload_n dX6_apart_52 rfl ?_
            refine en_iald i dX6_apart_53 lay_57 (by omega) (by omega) ?_
            rw [ep]
            refine ev_i2l dX6_apart_54 (by omega) ?_
            refine ev_iload_n dX6_apart_55 rfl ?_
            refine ev_i2l dX6_apart_56 (by omega) ?_
            refine em_S2 (d_least l _ (by omega) (by omega)) mX6_167 dX6_apart_57 ?_
            rintro r M ⟨rfl, rfl⟩
            refine ev_aload_n dX6_apart_60 rfl ?_
            refine em_getR fX6_20.g dX6_apart_61 lay_53 rfl ?_
            refine ev_iload_n dX6_apart_64 rfl ?_
            refine en_iald j dX6_apart_65 lay_57 (by omega) (by omega) ?_
            rw [eq]
            refine ev_i2l dX6_apart_66 (by omega) ?_
            refine ev_lmul dX6_apart_67 ?_
            refine ev_aload_n dX6_apart_68 rfl ?_
            refine em_getR fX6_20.g dX6_apart_69 lay_53 rfl ?_
            refine ev_iload_n dX6_apart_72 rfl ?_
            refine en_iald j dX6_apart_73 lay_57 (by omega) (by omega) ?_
            rw [eq]
            refine ev_i2l dX6_apart_74 (by omega) ?_
            refine ev_iload_n dX6_apart_75 rfl ?_
            refine ev_i2l dX6_apart_76 (by omega) ?_
            refine em_S2 (d_least l _ (by omega) (by omega)) mX6_167 dX6_apart_77 ?_
            rintro r M ⟨rfl, rfl⟩
            refine ev_aload_n dX6_apart_80 rfl ?_
            refine em_getR fX6_20.g dX6_apart_81 lay_53 rfl ?_
            refine ev_iload_n dX6_apart_84 rfl ?_
            refine en_iald i dX6_apart_85 lay_57 (by omega) (by omega) ?_
            rw [ep]
            refine ev_i2l dX6_apart_86 (by omega) ?_
            refine ev_lmul dX6_apart_87 ?_
            refine ev_lsub dX6_apart_88 ?_
            refine ev_lstore dX6_apart_89 (by decide) ?_
            refine ev_ls [some (vR _), some (vI _), some (vI _), some (vI _), some (vI _), some (vL _), none, none, none, none, none] rfl ?_
            refine ev_lload dX6_apart_91 rfl ?_
            refine ev_lconst0 dX6_apart_93 ?_
            refine ev_lcmp_ge 104 dX6_apart_94 dX6_apart_95 (by omega) (by omega) (fun c94 => ?_) (fun c94 => ?_)
            · refine ev_lload dX6_apart_104 rfl ?_
              refine ev_lstore dX6_apart_106 (by decide) ?_
              refine ev_ls [some (vR _), some (vI _), some (vI _), some (vI _), some (vI _), some (vL _), none, none, none, none, none] rfl ?_
              refine ev_iload_n dX6_apart_108 rfl ?_
              refine ev_i2l dX6_apart_109 (by omega) ?_
              refine ev_aload_n dX6_apart_110 rfl ?_
              refine em_getR fX6_20.g dX6_apart_111 lay_53 rfl ?_
              refine ev_iload_n dX6_apart_114 rfl ?_
              refine en_iald i dX6_apart_115 lay_57 (by omega) (by omega) ?_
              rw [ep]
              refine ev_i2l dX6_apart_116 (by omega) ?_
              refine ev_lmul dX6_apart_117 ?_
              refine ev_aload_n dX6_apart_118 rfl ?_
              refine em_getR fX6_20.g dX6_apart_119 lay_53 rfl ?_
              refine ev_iload_n dX6_apart_122 rfl ?_
              refine en_iald j dX6_apart_123 lay_57 (by omega) (by omega) ?_
              rw [eq]
              refine ev_i2l dX6_apart_124 (by omega) ?_
              refine ev_lmul dX6_apart_125 ?_
              refine ev_lstore dX6_apart_126 (by decide) ?_
              refine ev_ls [some (vR _), some (vI _), some (vI _), some (vI _), some (vI _), some (vL _), none, some (vL _), none, none, none] rfl ?_
              refine ev_ldc2 (1000) kX6_172 dX6_apart_128 (by decide) ?_
              refine ev_iload dX6_apart_131 rfl ?_
              refine ev_i2l dX6_apart_133 (by omega) ?_
              refine ev_lmul dX6_apart_134 ?_
              refine ev_lstore dX6_apart_135 (by decide) ?_
              refine ev_ls [some (vR _), some (vI _), some (vI _), some (vI _), some (vI _), some (vL _), none, some (vL _), none, some (vL _), none] rfl ?_
              refine ev_lload dX6_apart_137 rfl ?_
              refine ev_lload dX6_apart_139 rfl ?_
              refine ev_lload dX6_apart_141 rfl ?_
              refine ev_ladd dX6_apart_143 ?_
              refine ev_lconst1 dX6_apart_144 ?_
              refine ev_lsub dX6_apart_145 ?_
              refine ev_lload dX6_apart_146 rfl ?_
              rw [e5]
              refine ev_ldiv dX6_apart_148 (by omega) (by omega) (by omega) ?_
              rw [ud]
              refine ev_lcmp_lt 157 dX6_apart_149 dX6_apart_150 (by omega) (by omega) (fun c149 => ?_) (fun c149 => ?_)
              · refine ev_iconst dX6_apart_157 ?_
                exact em_iret dX6_apart_158 ⟨h, by unfold tApart; first | (rw [cif_pos (by first | (rw [if_pos (by omega)]; omega) | (rw [if_neg (by omega)]; omega))]) | (rw [cif_neg (by first | (rw [if_pos (by omega)]; omega) | (rw [if_neg (by omega)]; omega))])⟩
              · refine ev_iconst dX6_apart_153 ?_
                refine ev_goto 158 dX6_apart_154 ?_
                exact em_iret dX6_apart_158 ⟨h, by unfold tApart; first | (rw [cif_pos (by first | (rw [if_pos (by omega)]; omega) | (rw [if_neg (by omega)]; omega))]) | (rw [cif_neg (by first | (rw [if_pos (by omega)]; omega) | (rw [if_neg (by omega)]; omega))])⟩
            · refine ev_lload dX6_apart_98 rfl ?_
              refine ev_lneg dX6_apart_100 ?_
              refine ev_goto 106 dX6_apart_101 ?_
              refine ev_lstore dX6_apart_106 (by decide) ?_
              refine ev_ls [some (vR _), some (vI _), some (vI _), some (vI _), some (vI _), some (vL _), none, none, none, none, none] rfl ?_
              refine ev_iload_n dX6_apart_108 rfl ?_
              refine ev_i2l dX6_apart_109 (by omega) ?_
              refine ev_aload_n dX6_apart_110 rfl ?_
              refine em_getR fX6_20.g dX6_apart_111 lay_53 rfl ?_
              refine ev_iload_n dX6_apart_114 rfl ?_
              refine en_iald i dX6_apart_115 lay_57 (by omega) (by omega) ?_
              rw [ep]
              refine ev_i2l dX6_apart_116 (by omega) ?_
              refine ev_lmul dX6_apart_117 ?_
              refine ev_aload_n dX6_apart_118 rfl ?_
              refine em_getR fX6_20.g dX6_apart_119 lay_53 rfl ?_
              refine ev_iload_n dX6_apart_122 rfl ?_
              refine en_iald j dX6_apart_123 lay_57 (by omega) (by omega) ?_
              rw [eq]
              refine ev_i2l dX6_apart_124 (by omega) ?_
              refine ev_lmul dX6_apart_125 ?_
              refine ev_lstore dX6_apart_126 (by decide) ?_
              refine ev_ls [some (vR _), some (vI _), some (vI _), some (vI _), some (vI _), some (vL _), none, some (vL _), none, none, none] rfl ?_
              refine ev_ldc2 (1000) kX6_172 dX6_apart_128 (by decide) ?_
              refine ev_iload dX6_apart_131 rfl ?_
              refine ev_i2l dX6_apart_133 (by omega) ?_
              refine ev_lmul dX6_apart_134 ?_
              refine ev_lstore dX6_apart_135 (by decide) ?_
              refine ev_ls [some (vR _), some (vI _), some (vI _), some (vI _), some (vI _), some (vL _), none, some (vL _), none, some (vL _), none] rfl ?_
              refine ev_lload dX6_apart_137 rfl ?_
              refine ev_lload dX6_apart_139 rfl ?_
              refine ev_lload dX6_apart_141 rfl ?_
              refine ev_ladd dX6_apart_143 ?_
              refine ev_lconst1 dX6_apart_144 ?_
              refine ev_lsub dX6_apart_145 ?_
              refine ev_lload dX6_apart_146 rfl ?_
              rw [e5]
              refine ev_ldiv dX6_apart_148 (by omega) (by omega) (by omega) ?_
              rw [ud]
              refine ev_lcmp_lt 157 dX6_apart_149 dX6_apart_150 (by omega) (by omega) (fun c149 => ?_) (fun c149 => ?_)
              · refine ev_iconst dX6_apart_157 ?_
                exact em_iret dX6_apart_158 ⟨h, by unfold tApart; first | (rw [cif_pos (by first | (rw [if_pos (by omega)]; omega) | (rw [if_neg (by omega)]; omega))]) | (rw [cif_neg (by first | (rw [if_pos (by omega)]; omega) | (rw [if_neg (by omega)]; omega))])⟩
              · refine ev_iconst dX6_apart_153 ?_
                refine ev_goto 158 dX6_apart_154 ?_
                exact em_iret dX6_apart_158 ⟨h, by unfold tApart; first | (rw [cif_pos (by first | (rw [if_pos (by omega)]; omega) | (rw [if_neg (by omega)]; omega))]) | (rw [cif_neg (by first | (rw [if_pos (by omega)]; omega) | (rw [if_neg (by omega)]; omega))])⟩
          · refine ev_iconst dX6_apart_46 ?_
            exact em_iret dX6_apart_47 ⟨h, by unfold fApart; rw [cif_neg (by omega)]⟩
