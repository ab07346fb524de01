theorem ev_mem {l : Launch} {y : MethodName} {cc : ByteArray} {nL : Nat} {rt : Option FieldType} {R : Room} {E : EE} {Z : ZZ} {n0 pc : Nat} {ls : List (Option PV)} {st : List PV} {n ce sl : Nat} {M : Mem} (k : ∀ M1, M1 = M → Ev l y cc nL rt R E Z n0 pc ls st n ce sl (hp M1)) : Ev l y cc nL rt R E Z n0 pc ls st n ce sl (hp M) := k M rfl
theorem mb {x z : Int} (a b : Nat) (hx : -(a : Int) ≤ x ∧ x ≤ a) (hz : -(b : Int) ≤ z ∧ z ≤ b) : -((a * b : Nat) : Int) ≤ x * z ∧ x * z ≤ ((a * b : Nat) : Int) := by
  have h1 : (x * z).natAbs = x.natAbs * z.natAbs := Int.natAbs_mul x z
  have h2 : x.natAbs * z.natAbs ≤ a * b := Nat.mul_le_mul (by omega) (by omega)
  rw [← h1] at h2
  omega
/-- a track's numbers are in their ranges -/
def TR (M : Mem) (t : Nat) : Prop := (-100 ≤ M (2 + 2 * t) 0 ∧ M (2 + 2 * t) 0 ≤ 100) ∧ (-100 ≤ M (2 + 2 * t) 1 ∧ M (2 + 2 * t) 1 ≤ 100) ∧ (0 ≤ M (2 + 2 * t) 2 ∧ M (2 + 2 * t) 2 ≤ 1000000) ∧ (-100 ≤ M (2 + 2 * t) 0 + M (2 + 2 * t) 3 ∧ M (2 + 2 * t) 0 + M (2 + 2 * t) 3 ≤ 100) ∧ (-100 ≤ M (2 + 2 * t) 1 + M (2 + 2 * t) 4 ∧ M (2 + 2 * t) 1 + M (2 + 2 * t) 4 ≤ 100) ∧ (0 < M (2 + 2 * t) 5 ∧ M (2 + 2 * t) 2 + M (2 + 2 * t) 5 ≤ 1000000) ∧ (M (2 + 2 * t) 6 = 0 ∨ M (2 + 2 * t) 6 = 1) ∧ ∀ i, i < 9 → M (2 + 2 * t + 1) i = 200000 ∨ (-10000 ≤ M (2 + 2 * t + 1) i ∧ M (2 + 2 * t + 1) i ≤ 10000)
def cTu (A B : Nat → Int) : Int := A 3 * B 4 - A 4 * B 3
def cSg (A B : Nat → Int) : Int := if cTu A B < 0 then -1 else 1
def cBe (A B : Nat → Int) : Int := cSg A B * cTu A B
def cSA (A B : Nat → Int) : Int := cSg A B * ((B 0 - A 0) * B 4 - (B 1 - A 1) * B 3)
def cSB (A B : Nat → Int) : Int := cSg A B * ((B 0 - A 0) * A 4 - (B 1 - A 1) * A 3)
def cIs (A B : Nat → Int) : Prop := cBe A B ≠ 0 ∧ 0 ≤ cSA A B ∧ cSA A B ≤ cBe A B ∧ 0 ≤ cSB A B ∧ cSB A B ≤ cBe A B
/-- the place of the reading at a share, and what is left of it -/
def hI (sh be : Int) : Nat := (8 * sh / be).toNat
def hR (sh be : Int) : Int := 8 * sh % be
def hasH (H : Nat → Int) (sh be : Int) : Prop := H (hI sh be) ≠ 200000 ∧ (hR sh be ≠ 0 → H (hI sh be + 1) ≠ 200000)
def hV (H : Nat → Int) (sh be : Int) : Int := H (hI sh be) * (be - hR sh be) + (if hR sh be = 0 then H (hI sh be) else H (hI sh be + 1)) * hR sh be
theorem h_facts {sh be : Int} (hb : 0 < be) (h0 : 0 ≤ sh) (h1 : sh ≤ be) : (8 * sh).tdiv be = (hI sh be : Int) ∧ (8 * sh).tmod be = hR sh be ∧ 8 * sh - (hI sh be : Int) * be = hR sh be ∧ 0 ≤ hR sh be ∧ hR sh be < be ∧ hI sh be ≤ 8 ∧ (hI sh be = 8 → hR sh be = 0) := by
  have e1 := Int.mul_ediv_add_emod (8 * sh) be
  have e2 := Int.emod_nonneg (8 * sh) (show be ≠ 0 by omega)
  have e3 := Int.emod_lt_of_pos (8 * sh) hb
  have e4 : 0 ≤ 8 * sh / be := Int.ediv_nonneg (by omega) (by omega)
  have e5 : 8 * sh / be ≤ 8 * be / be := Int.ediv_le_ediv hb (by omega)
  rw [Int.mul_ediv_cancel _ (show be ≠ 0 by omega)] at e5
  have e6 : ((8 * sh / be).toNat : Int) = 8 * sh / be := Int.toNat_of_nonneg e4
  rw [Int.mul_comm be] at e1
  unfold hI hR
  refine ⟨by rw [Int.tdiv_eq_ediv_of_nonneg (by omega), e6], by rw [Int.tmod_eq_emod_of_nonneg (by omega)], by rw [e6]; omega, e2, e3, by omega, fun q => ?_⟩
  have e7 : 8 * sh / be = 8 := by omega
  rw [e7] at e1
  omega
theorem hV_0 {H : Nat → Int} {sh be : Int} (h : hR sh be = 0) : hV H sh be = H (hI sh be) * be := by
  unfold hV
  rw [if_pos h, h, Int.mul_zero, Int.add_zero, Int.sub_zero]
theorem hV_1 {H : Nat → Int} {sh be : Int} (h : ¬ hR sh be = 0) : hV H sh be = H (hI sh be) * be + (H (hI sh be + 1) - H (hI sh be)) * hR sh be := by
  unfold hV
  rw [if_neg h, Int.mul_sub, Int.sub_mul]
  omega
set_option maxRecDepth 100000 in
set_option maxHeartbeats 4000000 in
theorem c_runFrom (l : Launch) {M : Mem} {i : Nat} {a b c : Int} (hi : i < 8) : Cm l yX4_runFrom cX4_runFrom 4 none 0 0 [vR (2 + 2 * i), vI a, vI b, vI c] M (rV (up2 (up2 (up2 M (2 + 2 * i) 0 a) (2 + 2 * i) 1 b) (2 + 2 * i) 2 c)) := by
  refine cmo [some (vR (2 + 2 * i)), some (vI a), some (vI b), some (vI c)] ?_
  refine ev_aload_n dX4_runFrom_0 rfl ?_
  refine ev_iload_n dX4_runFrom_1 rfl ?_
  refine em_putI fX4_16 dX4_runFrom_2 (lay_trk (i := i) (by omega)) rfl ?_
  refine ev_aload_n dX4_runFrom_5 rfl ?_
  refine ev_iload_n dX4_runFrom_6 rfl ?_
  refine em_putI fX4_20 dX4_runFrom_7 (lay_trk (i := i) (by omega)) rfl ?_
  refine ev_aload_n dX4_runFrom_10 rfl ?_
  refine ev_iload_n dX4_runFrom_11 rfl ?_
  refine em_putI fX4_23 dX4_runFrom_12 (lay_trk (i := i) (by omega)) rfl ?_
  exact em_vret dX4_runFrom_15 ⟨rfl, rfl⟩
set_option maxRecDepth 100000 in
set_option maxHeartbeats 4000000 in
theorem c_runTo (l : Launch) {M : Mem} {i : Nat} {a b c : Int} (hi : i < 8) : Cm l yX4_runTo cX4_runTo 4 none 0 0 [vR (2 + 2 * i), vI a, vI b, vI c] M (rV (up2 (up2 (up2 M (2 + 2 * i) 3 (a - M (2 + 2 * i) 0)) (2 + 2 * i) 4 (b - M (2 + 2 * i) 1)) (2 + 2 * i) 5 (c - M (2 + 2 * i) 2))) := by
  refine cmo [some (vR (2 + 2 * i)), some (vI a), some (vI b), some (vI c)] ?_
  refine ev_aload_n dX4_runTo_0 rfl ?_
  refine ev_iload_n dX4_runTo_1 rfl ?_
  refine ev_aload_n dX4_runTo_2 rfl ?_
  refine em_getI fX4_16.g dX4_runTo_3 (lay_trk (i := i) (by omega)) rfl ?_
  refine ev_isub dX4_runTo_6 ?_
  refine em_putI fX4_26 dX4_runTo_7 (lay_trk (i := i) (by omega)) rfl ?_
  refine ev_aload_n dX4_runTo_10 rfl ?_
  refine ev_iload_n dX4_runTo_11 rfl ?_
  refine ev_aload_n dX4_runTo_12 rfl ?_
  refine em_getI fX4_20.g dX4_runTo_13 (lay_trk (i := i) (by omega)) rfl ?_
  refine ev_isub dX4_runTo_16 ?_
  refine em_putI fX4_29 dX4_runTo_17 (lay_trk (i := i) (by omega)) rfl ?_
  refine ev_aload_n dX4_runTo_20 rfl ?_
  refine ev_iload_n dX4_runTo_21 rfl ?_
  refine ev_aload_n dX4_runTo_22 rfl ?_
  refine em_getI fX4_23.g dX4_runTo_23 (lay_trk (i := i) (by omega)) rfl ?_
  refine ev_isub dX4_runTo_26 ?_
  refine em_putI fX4_32 dX4_runTo_27 (lay_trk (i := i) (by omega)) rfl ?_
  exact em_vret dX4_runTo_30 ⟨by rw [up2_ne _ _ _ _ (Or.inr (by omega)), up2_ne _ _ _ _ (Or.inr (by omega)), up2_ne _ _ _ _ (Or.inr (by omega))], rfl⟩
set_option maxRecDepth 100000 in
set_option maxHeartbeats 4000000 in
theorem c_htb (l : Launch) {M : Mem} {i : Nat} {sh be : Int} (hi : i < 8) (hT : TR M i) (hb : 0 < be) (hb2 : be ≤ 80000) (h0 : 0 ≤ sh) (h1 : sh ≤ be) : Cm l yX4_heightTimesBelow cX4_heightTimesBelow 8 (some .long) 0 0 [vR (2 + 2 * i), vL sh, vL be] M (fun r M' => M' = M ∧ ((¬ hasH (M (2 + 2 * i + 1)) sh be ∧ r = some (vL (-1000000000000000000))) ∨ (hasH (M (2 + 2 * i + 1)) sh be ∧ r = some (vL (hV (M (2 + 2 * i + 1)) sh be))))) := by
  refine cmo [some (vR (2 + 2 * i)), some (vL sh), none, some (vL be), none, none, none, none] ?_
  obtain ⟨f1, f2, f3, f4, f5, f6, f7⟩ := h_facts hb h0 h1
  have hx := hT.2.2.2.2.2.2.2
  have ha := hx (hI sh be) (by omega)
  have hp1 : i32 (hI sh be : Int) := by omega
  refine ev_lload_n dX4_heightTimesBelow_0 rfl ?_
  refine ev_lconst0 dX4_heightTimesBelow_1 ?_
  refine ev_lcmp_le 18 dX4_heightTimesBelow_2 dX4_heightTimesBelow_3 (by omega) (by omega) (fun c2 => ?_) (fun c2 => ?_)
  · refine ev_ldc2 (-1000000000000000000) kX4_35 dX4_heightTimesBelow_18 (by decide) ?_
    omega
  · refine ev_lload_n dX4_heightTimesBelow_6 rfl ?_
    refine ev_lconst0 dX4_heightTimesBelow_7 ?_
    refine ev_lcmp_lt 18 dX4_heightTimesBelow_8 dX4_heightTimesBelow_9 (by omega) (by omega) (fun c8 => ?_) (fun c8 => ?_)
    · refine ev_ldc2 (-1000000000000000000) kX4_35 dX4_heightTimesBelow_18 (by decide) ?_
      omega
    · refine ev_lload_n dX4_heightTimesBelow_12 rfl ?_
      refine ev_lload_n dX4_heightTimesBelow_13 rfl ?_
      refine ev_lcmp_le 22 dX4_heightTimesBelow_14 dX4_heightTimesBelow_15 (by omega) (by omega) (fun c14 => ?_) (fun c14 => ?_)
      · refine ev_ldc2 (8) kX4_37 dX4_heightTimesBelow_22 (by decide) ?_
        refine ev_lload_n dX4_heightTimesBelow_25 rfl ?_
        refine ev_lmul dX4_heightTimesBelow_26 ?_
        refine ev_lload_n dX4_heightTimesBelow_27 rfl ?_
        refine ev_ldiv dX4_heightTimesBelow_28 (by omega) (by omega) (by omega) ?_
        rw [f1]
        refine ev_l2i dX4_heightTimesBelow_29 ?_
        refine ev_istore dX4_heightTimesBelow_30 (by decide) ?_
        refine ev_ls [some (vR _), some (vL _), none, some (vL _), none, some (vI _), none, none] rfl ?_
        refine ev_ldc2 (8) kX4_37 dX4_heightTimesBelow_32 (by decide) ?_
        refine ev_lload_n dX4_heightTimesBelow_35 rfl ?_
        refine ev_lmul dX4_heightTimesBelow_36 ?_
        refine ev_iload dX4_heightTimesBelow_37 rfl ?_
        refine ev_i2l dX4_heightTimesBelow_39 (by omega) ?_
        refine ev_lload_n dX4_heightTimesBelow_40 rfl ?_
        refine ev_lmul dX4_heightTimesBelow_41 ?_
        refine ev_lsub dX4_heightTimesBelow_42 ?_
        rw [f3]
        refine ev_lstore dX4_heightTimesBelow_43 (by decide) ?_
        refine ev_ls [some (vR _), some (vL _), none, some (vL _), none, some (vI _), some (vL _), none] rfl ?_
        refine ev_aload_n dX4_heightTimesBelow_45 rfl ?_
        refine em_getR fX4_9.g dX4_heightTimesBelow_46 (lay_trk (i := i) (by omega)) rfl ?_
        refine ev_iload dX4_heightTimesBelow_49 rfl ?_
        refine en_iald (hI sh be) dX4_heightTimesBelow_51 (lay_hts (i := i) (by omega)) (by omega) (by omega) ?_
        refine ev_ldc (200000) kX4_15 dX4_heightTimesBelow_52 (by decide) ?_
        refine ev_icmp_ne 61 dX4_heightTimesBelow_54 (by omega) (by omega) (fun c54 => ?_) (fun c54 => ?_)
        · refine ev_lload dX4_heightTimesBelow_61 rfl ?_
          refine ev_lconst0 dX4_heightTimesBelow_63 ?_
          refine ev_lcmp_eq 75 dX4_heightTimesBelow_64 dX4_heightTimesBelow_65 (by omega) (by omega) (fun c64 => ?_) (fun c64 => ?_)
          · refine ev_aload_n dX4_heightTimesBelow_75 rfl ?_
            refine em_getR fX4_9.g dX4_heightTimesBelow_76 (lay_trk (i := i) (by omega)) rfl ?_
            refine ev_iload dX4_heightTimesBelow_79 rfl ?_
            refine en_iald (hI sh be) dX4_heightTimesBelow_81 (lay_hts (i := i) (by omega)) (by omega) (by omega) ?_
            refine ev_i2l dX4_heightTimesBelow_82 (by omega) ?_
            refine ev_lload_n dX4_heightTimesBelow_83 rfl ?_
            refine ev_lmul dX4_heightTimesBelow_84 ?_
            exact em_lret dX4_heightTimesBelow_85 ⟨rfl, Or.inr ⟨⟨by omega, fun q => by omega⟩, by rw [hV_0 (by omega)]⟩⟩
          · refine ev_iload dX4_heightTimesBelow_68 rfl ?_
            refine ev_bipush dX4_heightTimesBelow_70 (by decide) ?_
            refine ev_icmp_lt 86 dX4_heightTimesBelow_72 (by omega) (by omega) (fun c72 => ?_) (fun c72 => ?_)
            · have hlt : hI sh be < 8 := by omega
              have hb2 := hx (hI sh be + 1) (by omega)
              refine ev_aload_n dX4_heightTimesBelow_86 rfl ?_
              refine em_getR fX4_9.g dX4_heightTimesBelow_87 (lay_trk (i := i) (by omega)) rfl ?_
              refine ev_iload dX4_heightTimesBelow_90 rfl ?_
              refine ev_iconst dX4_heightTimesBelow_92 ?_
              refine ev_iadd dX4_heightTimesBelow_93 ?_
              refine en_iald (hI sh be + 1) dX4_heightTimesBelow_94 (lay_hts (i := i) (by omega)) (by omega) (by omega) ?_
              refine ev_ldc (200000) kX4_15 dX4_heightTimesBelow_95 (by decide) ?_
              refine ev_icmp_ne 104 dX4_heightTimesBelow_97 (by omega) (by omega) (fun c97 => ?_) (fun c97 => ?_)
              · refine ev_aload_n dX4_heightTimesBelow_104 rfl ?_
                refine em_getR fX4_9.g dX4_heightTimesBelow_105 (lay_trk (i := i) (by omega)) rfl ?_
                refine ev_iload dX4_heightTimesBelow_108 rfl ?_
                refine en_iald (hI sh be) dX4_heightTimesBelow_110 (lay_hts (i := i) (by omega)) (by omega) (by omega) ?_
                refine ev_i2l dX4_heightTimesBelow_111 (by omega) ?_
                refine ev_lload_n dX4_heightTimesBelow_112 rfl ?_
                refine ev_lmul dX4_heightTimesBelow_113 ?_
                refine ev_aload_n dX4_heightTimesBelow_114 rfl ?_
                refine em_getR fX4_9.g dX4_heightTimesBelow_115 (lay_trk (i := i) (by omega)) rfl ?_
                refine ev_iload dX4_heightTimesBelow_118 rfl ?_
                refine ev_iconst dX4_heightTimesBelow_120 ?_
                refine ev_iadd dX4_heightTimesBelow_121 ?_
                refine en_iald (hI sh be + 1) dX4_heightTimesBelow_122 (lay_hts (i := i) (by omega)) (by omega) (by omega) ?_
                refine ev_aload_n dX4_heightTimesBelow_123 rfl ?_
                refine em_getR fX4_9.g dX4_heightTimesBelow_124 (lay_trk (i := i) (by omega)) rfl ?_
                refine ev_iload dX4_heightTimesBelow_127 rfl ?_
                refine en_iald (hI sh be) dX4_heightTimesBelow_129 (lay_hts (i := i) (by omega)) (by omega) (by omega) ?_
                refine ev_isub dX4_heightTimesBelow_130 ?_
                refine ev_i2l dX4_heightTimesBelow_131 (by omega) ?_
                refine ev_lload dX4_heightTimesBelow_132 rfl ?_
                refine ev_lmul dX4_heightTimesBelow_134 ?_
                refine ev_ladd dX4_heightTimesBelow_135 ?_
                exact em_lret dX4_heightTimesBelow_136 ⟨rfl, Or.inr ⟨⟨by omega, fun q => by omega⟩, by rw [hV_1 (by omega)]⟩⟩
              · refine ev_ldc2 (-1000000000000000000) kX4_35 dX4_heightTimesBelow_100 (by decide) ?_
                exact em_lret dX4_heightTimesBelow_103 ⟨rfl, Or.inl ⟨fun q => q.2 (by omega) (by omega), rfl⟩⟩
            · refine ev_aload_n dX4_heightTimesBelow_75 rfl ?_
              refine em_getR fX4_9.g dX4_heightTimesBelow_76 (lay_trk (i := i) (by omega)) rfl ?_
              refine ev_iload dX4_heightTimesBelow_79 rfl ?_
              refine en_iald (hI sh be) dX4_heightTimesBelow_81 (lay_hts (i := i) (by omega)) (by omega) (by omega) ?_
              refine ev_i2l dX4_heightTimesBelow_82 (by omega) ?_
              refine ev_lload_n dX4_heightTimesBelow_83 rfl ?_
              refine ev_lmul dX4_heightTimesBelow_84 ?_
              exact em_lret dX4_heightTimesBelow_85 ⟨rfl, Or.inr ⟨⟨by omega, fun q => by omega⟩, by rw [hV_0 (by omega)]⟩⟩
        · refine ev_ldc2 (-1000000000000000000) kX4_35 dX4_heightTimesBelow_57 (by decide) ?_
          exact em_lret dX4_heightTimesBelow_60 ⟨rfl, Or.inl ⟨fun q => q.1 (by omega), rfl⟩⟩
      · refine ev_ldc2 (-1000000000000000000) kX4_35 dX4_heightTimesBelow_18 (by decide) ?_
        omega
set_option maxRecDepth 100000 in
set_option maxHeartbeats 4000000 in
theorem c_find (l : Launch) {M : Mem} {i j : Nat} (hi : i < 8) (hj : j < 8) (hA : TR M i) (hB : TR M j) : Cm l yX1_find cX1_find 11 none 0 0 [vR 18, vR (2 + 2 * i), vR (2 + 2 * j)] M (fun r M' => r = none ∧ (∀ k, k ≠ 18 → M' k = M k) ∧ M' 18 1 = cBe (M (2 + 2 * i)) (M (2 + 2 * j)) ∧ M' 18 2 = cSA (M (2 + 2 * i)) (M (2 + 2 * j)) ∧ M' 18 3 = cSB (M (2 + 2 * i)) (M (2 + 2 * j)) ∧ ((M' 18 0 = 0 ∧ ¬ cIs (M (2 + 2 * i)) (M (2 + 2 * j))) ∨ (M' 18 0 = 1 ∧ cIs (M (2 + 2 * i)) (M (2 + 2 * j))))) := by
  refine cmo [some (vR 18), some (vR (2 + 2 * i)), some (vR (2 + 2 * j)), none, none, none, none, none, none, none, none] ?_
  obtain ⟨a0, a1, a2, a3, a4, a5, a6, -⟩ := hA
  obtain ⟨b0, b1, b2, b3, b4, b5, b6, -⟩ := hB
  have p0 := mb (x := M (2 + 2 * i) 3) (z := M (2 + 2 * j) 4) 200 200 (by omega) (by omega)
  have p1 := mb (x := M (2 + 2 * i) 4) (z := M (2 + 2 * j) 3) 200 200 (by omega) (by omega)
  have p2 := mb (x := (M (2 + 2 * j) 0 - M (2 + 2 * i) 0)) (z := M (2 + 2 * j) 4) 200 200 (by omega) (by omega)
  have p3 := mb (x := (M (2 + 2 * j) 1 - M (2 + 2 * i) 1)) (z := M (2 + 2 * j) 3) 200 200 (by omega) (by omega)
  have p4 := mb (x := (M (2 + 2 * j) 0 - M (2 + 2 * i) 0)) (z := M (2 + 2 * i) 4) 200 200 (by omega) (by omega)
  have p5 := mb (x := (M (2 + 2 * j) 1 - M (2 + 2 * i) 1)) (z := M (2 + 2 * i) 3) 200 200 (by omega) (by omega)
  refine ev_aload_n dX1_find_0 rfl ?_
  refine em_getI fX1_19.g dX1_find_1 (lay_trk (i := i) (by omega)) rfl ?_
  refine ev_i2l dX1_find_4 (by omega) ?_
  refine ev_aload_n dX1_find_5 rfl ?_
  refine em_getI fX1_25.g dX1_find_6 (lay_trk (i := j) (by omega)) rfl ?_
  refine ev_i2l dX1_find_9 (by omega) ?_
  refine ev_lmul dX1_find_10 ?_
  refine ev_aload_n dX1_find_11 rfl ?_
  refine em_getI fX1_25.g dX1_find_12 (lay_trk (i := i) (by omega)) rfl ?_
  refine ev_i2l dX1_find_15 (by omega) ?_
  refine ev_aload_n dX1_find_16 rfl ?_
  refine em_getI fX1_19.g dX1_find_17 (lay_trk (i := j) (by omega)) rfl ?_
  refine ev_i2l dX1_find_20 (by omega) ?_
  refine ev_lmul dX1_find_21 ?_
  refine ev_lsub dX1_find_22 ?_
  refine ev_lstore_n dX1_find_23 (by decide) ?_
  refine ev_ls [some (vR _), some (vR _), some (vR _), some (vL _), none, none, none, none, none, none, none] rfl ?_
  refine ev_lload_n dX1_find_24 rfl ?_
  refine ev_lconst0 dX1_find_25 ?_
  refine ev_lcmp_ge 36 dX1_find_26 dX1_find_27 (by omega) (by omega) (fun c26 => ?_) (fun c26 => ?_)
  · refine ev_lconst1 dX1_find_36 ?_
    refine ev_lstore dX1_find_37 (by decide) ?_
    refine ev_ls [some (vR _), some (vR _), some (vR _), some (vL _), none, some (vL _), none, none, none, none, none] rfl ?_
    refine ev_aload_n dX1_find_39 rfl ?_
    refine em_getI fX1_30.g dX1_find_40 (lay_trk (i := j) (by omega)) rfl ?_
    refine ev_aload_n dX1_find_43 rfl ?_
    refine em_getI fX1_30.g dX1_find_44 (lay_trk (i := i) (by omega)) rfl ?_
    refine ev_isub dX1_find_47 ?_
    refine ev_i2l dX1_find_48 (by omega) ?_
    refine ev_lstore dX1_find_49 (by decide) ?_
    refine ev_ls [some (vR _), some (vR _), some (vR _), some (vL _), none, some (vL _), none, some (vL _), none, none, none] rfl ?_
    refine ev_aload_n dX1_find_51 rfl ?_
    refine em_getI fX1_33.g dX1_find_52 (lay_trk (i := j) (by omega)) rfl ?_
    refine ev_aload_n dX1_find_55 rfl ?_
    refine em_getI fX1_33.g dX1_find_56 (lay_trk (i := i) (by omega)) rfl ?_
    refine ev_isub dX1_find_59 ?_
    refine ev_i2l dX1_find_60 (by omega) ?_
    refine ev_lstore dX1_find_61 (by decide) ?_
    refine ev_ls [some (vR _), some (vR _), some (vR _), some (vL _), none, some (vL _), none, some (vL _), none, some (vL _), none] rfl ?_
    refine ev_aload_n dX1_find_63 rfl ?_
    refine ev_lload dX1_find_64 rfl ?_
    refine ev_lload dX1_find_66 rfl ?_
    refine ev_aload_n dX1_find_68 rfl ?_
    refine em_getI fX1_25.g dX1_find_69 (lay_trk (i := j) (by omega)) rfl ?_
    refine ev_i2l dX1_find_72 (by omega) ?_
    refine ev_lmul dX1_find_73 ?_
    refine ev_lload dX1_find_74 rfl ?_
    refine ev_aload_n dX1_find_76 rfl ?_
    refine em_getI fX1_19.g dX1_find_77 (lay_trk (i := j) (by omega)) rfl ?_
    refine ev_i2l dX1_find_80 (by omega) ?_
    refine ev_lmul dX1_find_81 ?_
    refine ev_lsub dX1_find_82 ?_
    refine ev_lmul dX1_find_83 ?_
    refine em_putL fX1_36 dX1_find_84 lay_18 rfl ?_
    refine ev_mem (fun M0 hM0 => ?_)
    have k0 : ∀ k, k ≠ 18 → M0 k = M k := fun k hk => by rw [hM0, up2_row _ _ _ _ hk]
    have r3 : M0 (2 + 2 * i) 3 = M (2 + 2 * i) 3 := by rw [k0 _ (by omega)]
    have r4 : M0 (2 + 2 * i) 4 = M (2 + 2 * i) 4 := by rw [k0 _ (by omega)]
    refine ev_aload_n dX1_find_87 rfl ?_
    refine ev_lload dX1_find_88 rfl ?_
    refine ev_lload dX1_find_90 rfl ?_
    refine ev_aload_n dX1_find_92 rfl ?_
    refine em_getI fX1_25.g dX1_find_93 (lay_trk (i := i) (by omega)) rfl ?_
    refine ev_i2l dX1_find_96 (by omega) ?_
    refine ev_lmul dX1_find_97 ?_
    refine ev_lload dX1_find_98 rfl ?_
    refine ev_aload_n dX1_find_100 rfl ?_
    refine em_getI fX1_19.g dX1_find_101 (lay_trk (i := i) (by omega)) rfl ?_
    refine ev_i2l dX1_find_104 (by omega) ?_
    refine ev_lmul dX1_find_105 ?_
    refine ev_lsub dX1_find_106 ?_
    refine ev_lmul dX1_find_107 ?_
    rw [r3, r4]
    refine em_putL fX1_39 dX1_find_108 lay_18 rfl ?_
    refine ev_aload_n dX1_find_111 rfl ?_
    refine ev_lload dX1_find_112 rfl ?_
    refine ev_lload_n dX1_find_114 rfl ?_
    refine ev_lmul dX1_find_115 ?_
    refine em_putL fX1_15 dX1_find_116 lay_18 rfl ?_
    refine ev_mem (fun M1 hM1 => ?_)
    have hsg : cSg (M (2 + 2 * i)) (M (2 + 2 * j)) = if (M (2 + 2 * i) 3 * M (2 + 2 * j) 4 - M (2 + 2 * i) 4 * M (2 + 2 * j) 3) < 0 then -1 else 1 := rfl
    first | rw [if_neg (by omega)] at hsg | rw [if_pos (by omega)] at hsg
    have k1 : ∀ k, k ≠ 18 → M1 k = M k := fun k hk => by rw [hM1, up2_row _ _ _ _ hk, up2_row _ _ _ _ hk, k0 k hk]
    have g1 : M1 18 1 = cBe (M (2 + 2 * i)) (M (2 + 2 * j)) := by rw [hM1, up2_same]; unfold cBe cTu; rw [hsg]
    have g2 : M1 18 2 = cSA (M (2 + 2 * i)) (M (2 + 2 * j)) := by rw [hM1, up2_ne _ _ _ _ (Or.inr (by omega)), up2_ne _ _ _ _ (Or.inr (by omega)), hM0, up2_same]; unfold cSA; rw [hsg]
    have g3 : M1 18 3 = cSB (M (2 + 2 * i)) (M (2 + 2 * j)) := by rw [hM1, up2_ne _ _ _ _ (Or.inr (by omega)), up2_same]; unfold cSB; rw [hsg]
    have w1 : -80000 ≤ M1 18 1 ∧ M1 18 1 ≤ 80000 := by rw [g1]; unfold cBe cTu; rw [hsg]; omega
    have w2 : -80000 ≤ M1 18 2 ∧ M1 18 2 ≤ 80000 := by rw [g2]; unfold cSA; rw [hsg]; omega
    have w3 : -80000 ≤ M1 18 3 ∧ M1 18 3 ≤ 80000 := by rw [g3]; unfold cSB; rw [hsg]; omega
    clear hM1
    refine ev_aload_n dX1_find_119 rfl ?_
    refine ev_aload_n dX1_find_120 rfl ?_
    refine em_getL fX1_15.g dX1_find_121 lay_18 rfl ?_
    refine ev_lconst0 dX1_find_124 ?_
    refine ev_lcmp_eq 175 dX1_find_125 dX1_find_126 (by omega) (by omega) (fun c125 => ?_) (fun c125 => ?_)
    · refine ev_iconst dX1_find_175 ?_
      refine em_putZ fX1_9 dX1_find_176 lay_18 rfl (by omega) ?_
      exact em_vret dX1_find_179 ⟨rfl, fun k hk => by rw [up2_row _ _ _ _ hk]; exact k1 k hk, by rw [up2_ne _ _ _ _ (Or.inr (by omega))]; exact g1, by rw [up2_ne _ _ _ _ (Or.inr (by omega))]; exact g2, by rw [up2_ne _ _ _ _ (Or.inr (by omega))]; exact g3, by rw [up2_same]; unfold cIs; omega⟩
    · refine ev_aload_n dX1_find_129 rfl ?_
      refine em_getL fX1_36.g dX1_find_130 lay_18 rfl ?_
      refine ev_lconst0 dX1_find_133 ?_
      refine ev_lcmp_lt 175 dX1_find_134 dX1_find_135 (by omega) (by omega) (fun c134 => ?_) (fun c134 => ?_)
      · refine ev_iconst dX1_find_175 ?_
        refine em_putZ fX1_9 dX1_find_176 lay_18 rfl (by omega) ?_
        exact em_vret dX1_find_179 ⟨rfl, fun k hk => by rw [up2_row _ _ _ _ hk]; exact k1 k hk, by rw [up2_ne _ _ _ _ (Or.inr (by omega))]; exact g1, by rw [up2_ne _ _ _ _ (Or.inr (by omega))]; exact g2, by rw [up2_ne _ _ _ _ (Or.inr (by omega))]; exact g3, by rw [up2_same]; unfold cIs; omega⟩
      · refine ev_aload_n dX1_find_138 rfl ?_
        refine em_getL fX1_36.g dX1_find_139 lay_18 rfl ?_
        refine ev_aload_n dX1_find_142 rfl ?_
        refine em_getL fX1_15.g dX1_find_143 lay_18 rfl ?_
        refine ev_lcmp_gt 175 dX1_find_146 dX1_find_147 (by omega) (by omega) (fun c146 => ?_) (fun c146 => ?_)
        · refine ev_iconst dX1_find_175 ?_
          refine em_putZ fX1_9 dX1_find_176 lay_18 rfl (by omega) ?_
          exact em_vret dX1_find_179 ⟨rfl, fun k hk => by rw [up2_row _ _ _ _ hk]; exact k1 k hk, by rw [up2_ne _ _ _ _ (Or.inr (by omega))]; exact g1, by rw [up2_ne _ _ _ _ (Or.inr (by omega))]; exact g2, by rw [up2_ne _ _ _ _ (Or.inr (by omega))]; exact g3, by rw [up2_same]; unfold cIs; omega⟩
        · refine ev_aload_n dX1_find_150 rfl ?_
          refine em_getL fX1_39.g dX1_find_151 lay_18 rfl ?_
          refine ev_lconst0 dX1_find_154 ?_
          refine ev_lcmp_lt 175 dX1_find_155 dX1_find_156 (by omega) (by omega) (fun c155 => ?_) (fun c155 => ?_)
          · refine ev_iconst dX1_find_175 ?_
            refine em_putZ fX1_9 dX1_find_176 lay_18 rfl (by omega) ?_
            exact em_vret dX1_find_179 ⟨rfl, fun k hk => by rw [up2_row _ _ _ _ hk]; exact k1 k hk, by rw [up2_ne _ _ _ _ (Or.inr (by omega))]; exact g1, by rw [up2_ne _ _ _ _ (Or.inr (by omega))]; exact g2, by rw [up2_ne _ _ _ _ (Or.inr (by omega))]; exact g3, by rw [up2_same]; unfold cIs; omega⟩
          · refine ev_aload_n dX1_find_159 rfl ?_
            refine em_getL fX1_39.g dX1_find_160 lay_18 rfl ?_
            refine ev_aload_n dX1_find_163 rfl ?_
            refine em_getL fX1_15.g dX1_find_164 lay_18 rfl ?_
            refine ev_lcmp_gt 175 dX1_find_167 dX1_find_168 (by omega) (by omega) (fun c167 => ?_) (fun c167 => ?_)
            · refine ev_iconst dX1_find_175 ?_
              refine em_putZ fX1_9 dX1_find_176 lay_18 rfl (by omega) ?_
              exact em_vret dX1_find_179 ⟨rfl, fun k hk => by rw [up2_row _ _ _ _ hk]; exact k1 k hk, by rw [up2_ne _ _ _ _ (Or.inr (by omega))]; exact g1, by rw [up2_ne _ _ _ _ (Or.inr (by omega))]; exact g2, by rw [up2_ne _ _ _ _ (Or.inr (by omega))]; exact g3, by rw [up2_same]; unfold cIs; omega⟩
            · refine ev_iconst dX1_find_171 ?_
              refine ev_goto 176 dX1_find_172 ?_
              refine em_putZ fX1_9 dX1_find_176 lay_18 rfl (by omega) ?_
              exact em_vret dX1_find_179 ⟨rfl, fun k hk => by rw [up2_row _ _ _ _ hk]; exact k1 k hk, by rw [up2_ne _ _ _ _ (Or.inr (by omega))]; exact g1, by rw [up2_ne _ _ _ _ (Or.inr (by omega))]; exact g2, by rw [up2_ne _ _ _ _ (Or.inr (by omega))]; exact g3, by rw [up2_same]; unfold cIs; omega⟩
  · refine ev_ldc2 (-1) kX1_28 dX1_find_30 (by decide) ?_
    refine ev_goto 37 dX1_find_33 ?_
    refine ev_lstore dX1_find_37 (by decide) ?_
    refine ev_ls [some (vR _), some (vR _), some (vR _), some (vL _), none, some (vL _), none, none, none, none, none] rfl ?_
    refine ev_aload_n dX1_find_39 rfl ?_
    refine em_getI fX1_30.g dX1_find_40 (lay_trk (i := j) (by omega)) rfl ?_
    refine ev_aload_n dX1_find_43 rfl ?_
    refine em_getI fX1_30.g dX1_find_44 (lay_trk (i := i) (by omega)) rfl ?_
    refine ev_isub dX1_find_47 ?_
    refine ev_i2l dX1_find_48 (by omega) ?_
    refine ev_lstore dX1_find_49 (by decide) ?_
    refine ev_ls [some (vR _), some (vR _), some (vR _), some (vL _), none, some (vL _), none, some (vL _), none, none, none] rfl ?_
    refine ev_aload_n dX1_find_51 rfl ?_
    refine em_getI fX1_33.g dX1_find_52 (lay_trk (i := j) (by omega)) rfl ?_
    refine ev_aload_n dX1_find_55 rfl ?_
    refine em_getI fX1_33.g dX1_find_56 (lay_trk (i := i) (by omega)) rfl ?_
    refine ev_isub dX1_find_59 ?_
    refine ev_i2l dX1_find_60 (by omega) ?_
    refine ev_lstore dX1_find_61 (by decide) ?_
    refine ev_ls [some (vR _), some (vR _), some (vR _), some (vL _), none, some (vL _), none, some (vL _), none, some (vL _), none] rfl ?_
    refine ev_aload_n dX1_find_63 rfl ?_
    refine ev_lload dX1_find_64 rfl ?_
    refine ev_lload dX1_find_66 rfl ?_
    refine ev_aload_n dX1_find_68 rfl ?_
    refine em_getI fX1_25.g dX1_find_69 (lay_trk (i := j) (by omega)) rfl ?_
    refine ev_i2l dX1_find_72 (by omega) ?_
    refine ev_lmul dX1_find_73 ?_
    refine ev_lload dX1_find_74 rfl ?_
    refine ev_aload_n dX1_find_76 rfl ?_
    refine em_getI fX1_19.g dX1_find_77 (lay_trk (i := j) (by omega)) rfl ?_
    refine ev_i2l dX1_find_80 (by omega) ?_
    refine ev_lmul dX1_find_81 ?_
    refine ev_lsub dX1_find_82 ?_
    refine ev_lmul dX1_find_83 ?_
    refine em_putL fX1_36 dX1_find_84 lay_18 rfl ?_
    refine ev_mem (fun M0 hM0 => ?_)
    have k0 : ∀ k, k ≠ 18 → M0 k = M k := fun k hk => by rw [hM0, up2_row _ _ _ _ hk]
    have r3 : M0 (2 + 2 * i) 3 = M (2 + 2 * i) 3 := by rw [k0 _ (by omega)]
    have r4 : M0 (2 + 2 * i) 4 = M (2 + 2 * i) 4 := by rw [k0 _ (by omega)]
    refine ev_aload_n dX1_find_87 rfl ?_
    refine ev_lload dX1_find_88 rfl ?_
    refine ev_lload dX1_find_90 rfl ?_
    refine ev_aload_n dX1_find_92 rfl ?_
    refine em_getI fX1_25.g dX1_find_93 (lay_trk (i := i) (by omega)) rfl ?_
    refine ev_i2l dX1_find_96 (by omega) ?_
    refine ev_lmul dX1_find_97 ?_
    refine ev_lload dX1_find_98 rfl ?_
    refine ev_aload_n dX1_find_100 rfl ?_
    refine em_getI fX1_19.g dX1_find_101 (lay_trk (i := i) (by omega)) rfl ?_
    refine ev_i2l dX1_find_104 (by omega) ?_
    refine ev_lmul dX1_find_105 ?_
    refine ev_lsub dX1_find_106 ?_
    refine ev_lmul dX1_find_107 ?_
    rw [r3, r4]
    refine em_putL fX1_39 dX1_find_108 lay_18 rfl ?_
    refine ev_aload_n dX1_find_111 rfl ?_
    refine ev_lload dX1_find_112 rfl ?_
    refine ev_lload_n dX1_find_114 rfl ?_
    refine ev_lmul dX1_find_115 ?_
    refine em_putL fX1_15 dX1_find_116 lay_18 rfl ?_
    refine ev_mem (fun M1 hM1 => ?_)
    have hsg : cSg (M (2 + 2 * i)) (M (2 + 2 * j)) = if (M (2 + 2 * i) 3 * M (2 + 2 * j) 4 - M (2 + 2 * i) 4 * M (2 + 2 * j) 3) < 0 then -1 else 1 := rfl
    first | rw [if_neg (by omega)] at hsg | rw [if_pos (by omega)] at hsg
    have k1 : ∀ k, k ≠ 18 → M1 k = M k := fun k hk => by rw [hM1, up2_row _ _ _ _ hk, up2_row _ _ _ _ hk, k0 k hk]
    have g1 : M1 18 1 = cBe (M (2 + 2 * i)) (M (2 + 2 * j)) := by rw [hM1, up2_same]; unfold cBe cTu; rw [hsg]
    have g2 : M1 18 2 = cSA (M (2 + 2 * i)) (M (2 + 2 * j)) := by rw [hM1, up2_ne _ _ _ _ (Or.inr (by omega)), up2_ne _ _ _ _ (Or.inr (by omega)), hM0, up2_same]; unfold cSA; rw [hsg]
    have g3 : M1 18 3 = cSB (M (2 + 2 * i)) (M (2 + 2 * j)) := by rw [hM1, up2_ne _ _ _ _ (Or.inr (by omega)), up2_same]; unfold cSB; rw [hsg]
    have w1 : -80000 ≤ M1 18 1 ∧ M1 18 1 ≤ 80000 := by rw [g1]; unfold cBe cTu; rw [hsg]; omega
    have w2 : -80000 ≤ M1 18 2 ∧ M1 18 2 ≤ 80000 := by rw [g2]; unfold cSA; rw [hsg]; omega
    have w3 : -80000 ≤ M1 18 3 ∧ M1 18 3 ≤ 80000 := by rw [g3]; unfold cSB; rw [hsg]; omega
    clear hM1
    refine ev_aload_n dX1_find_119 rfl ?_
    refine ev_aload_n dX1_find_120 rfl ?_
    refine em_getL fX1_15.g dX1_find_121 lay_18 rfl ?_
    refine ev_lconst0 dX1_find_124 ?_
    refine ev_lcmp_eq 175 dX1_find_125 dX1_find_126 (by omega) (by omega) (fun c125 => ?_) (fun c125 => ?_)
    · refine ev_iconst dX1_find_175 ?_
      refine em_putZ fX1_9 dX1_find_176 lay_18 rfl (by omega) ?_
      exact em_vret dX1_find_179 ⟨rfl, fun k hk => by rw [up2_row _ _ _ _ hk]; exact k1 k hk, by rw [up2_ne _ _ _ _ (Or.inr (by omega))]; exact g1, by rw [up2_ne _ _ _ _ (Or.inr (by omega))]; exact g2, by rw [up2_ne _ _ _ _ (Or.inr (by omega))]; exact g3, by rw [up2_same]; unfold cIs; omega⟩
    · refine ev_aload_n dX1_find_129 rfl ?_
      refine em_getL fX1_36.g dX1_find_130 lay_18 rfl ?_
      refine ev_lconst0 dX1_find_133 ?_
      refine ev_lcmp_lt 175 dX1_find_134 dX1_find_135 (by omega) (by omega) (fun c134 => ?_) (fun c134 => ?_)
      · refine ev_iconst dX1_find_175 ?_
        refine em_putZ fX1_9 dX1_find_176 lay_18 rfl (by omega) ?_
        exact em_vret dX1_find_179 ⟨rfl, fun k hk => by rw [up2_row _ _ _ _ hk]; exact k1 k hk, by rw [up2_ne _ _ _ _ (Or.inr (by omega))]; exact g1, by rw [up2_ne _ _ _ _ (Or.inr (by omega))]; exact g2, by rw [up2_ne _ _ _ _ (Or.inr (by omega))]; exact g3, by rw [up2_same]; unfold cIs; omega⟩
      · refine ev_aload_n dX1_find_138 rfl ?_
        refine em_getL fX1_36.g dX1_find_139 lay_18 rfl ?_
        refine ev_aload_n dX1_find_142 rfl ?_
        refine em_getL fX1_15.g dX1_find_143 lay_18 rfl ?_
        refine ev_lcmp_gt 175 dX1_find_146 dX1_find_147 (by omega) (by omega) (fun c146 => ?_) (fun c146 => ?_)
        · refine ev_iconst dX1_find_175 ?_
          refine em_putZ fX1_9 dX1_find_176 lay_18 rfl (by omega) ?_
          exact em_vret dX1_find_179 ⟨rfl, fun k hk => by rw [up2_row _ _ _ _ hk]; exact k1 k hk, by rw [up2_ne _ _ _ _ (Or.inr (by omega))]; exact g1, by rw [up2_ne _ _ _ _ (Or.inr (by omega))]; exact g2, by rw [up2_ne _ _ _ _ (Or.inr (by omega))]; exact g3, by rw [up2_same]; unfold cIs; omega⟩
        · refine ev_aload_n dX1_find_150 rfl ?_
          refine em_getL fX1_39.g dX1_find_151 lay_18 rfl ?_
          refine ev_lconst0 dX1_find_154 ?_
          refine ev_lcmp_lt 175 dX1_find_155 dX1_find_156 (by omega) (by omega) (fun c155 => ?_) (fun c155 => ?_)
          · refine ev_iconst dX1_find_175 ?_
            refine em_putZ fX1_9 dX1_find_176 lay_18 rfl (by omega) ?_
            exact em_vret dX1_find_179 ⟨rfl, fun k hk => by rw [up2_row _ _ _ _ hk]; exact k1 k hk, by rw [up2_ne _ _ _ _ (Or.inr (by omega))]; exact g1, by rw [up2_ne _ _ _ _ (Or.inr (by omega))]; exact g2, by rw [up2_ne _ _ _ _ (Or.inr (by omega))]; exact g3, by rw [up2_same]; unfold cIs; omega⟩
          · refine ev_aload_n dX1_find_159 rfl ?_
            refine em_getL fX1_39.g dX1_find_160 lay_18 rfl ?_
            refine ev_aload_n dX1_find_163 rfl ?_
            refine em_getL fX1_15.g dX1_find_164 lay_18 rfl ?_
            refine ev_lcmp_gt 175 dX1_find_167 dX1_find_168 (by omega) (by omega) (fun c167 => ?_) (fun c167 => ?_)
            · refine ev_iconst dX1_find_175 ?_
              refine em_putZ fX1_9 dX1_find_176 lay_18 rfl (by omega) ?_
              exact em_vret dX1_find_179 ⟨rfl, fun k hk => by rw [up2_row _ _ _ _ hk]; exact k1 k hk, by rw [up2_ne _ _ _ _ (Or.inr (by omega))]; exact g1, by rw [up2_ne _ _ _ _ (Or.inr (by omega))]; exact g2, by rw [up2_ne _ _ _ _ (Or.inr (by omega))]; exact g3, by rw [up2_same]; unfold cIs; omega⟩
            · refine ev_iconst dX1_find_171 ?_
              refine ev_goto 176 dX1_find_172 ?_
              refine em_putZ fX1_9 dX1_find_176 lay_18 rfl (by omega) ?_
              exact em_vret dX1_find_179 ⟨rfl, fun k hk => by rw [up2_row _ _ _ _ hk]; exact k1 k hk, by rw [up2_ne _ _ _ _ (Or.inr (by omega))]; exact g1, by rw [up2_ne _ _ _ _ (Or.inr (by omega))]; exact g2, by rw [up2_ne _ _ _ _ (Or.inr (by omega))]; exact g3, by rw [up2_same]; unfold cIs; omega⟩
