def frp (x b p : Int) : Int := (if p = 0 then x else b).tdiv (Int.gcd x b : Int)
noncomputable def gCross (A B HA HB : Nat → Int) (w p : Int) : Int := cif (cIs A B) (cif ((w = 6 ∧ ¬ hasH HA (cSA A B) (cBe A B)) ∨ (w = 7 ∧ ¬ hasH HB (cSB A B) (cBe A B))) (-1000000002) (frp (abv A B HA HB (cBe A B) (cSA A B) (cSB A B) w) (cBe A B) p)) (-1000000002)
noncomputable def fCross (M0 : Mem) (T : Nat) (a b w p : Int) : Int := cif ((0 ≤ a ∧ a < (T : Int)) ∧ (0 ≤ b ∧ b < (T : Int)) ∧ a ≠ b ∧ (0 ≤ w ∧ w ≤ 7) ∧ (p = 0 ∨ p = 1)) (gCross (M0 (2 + 2 * a.toNat)) (M0 (2 + 2 * b.toNat)) (M0 (2 + 2 * a.toNat + 1)) (M0 (2 + 2 * b.toNat + 1)) w p) (-1000000001)
theorem abv_bd {M : Mem} {i j : Nat} (hA : TR M i) (hB : TR M j) {be sa sb w : Int} (h1 : 0 < be ∧ be ≤ 80000) (h2 : 0 ≤ sa ∧ sa ≤ be) (h3 : 0 ≤ sb ∧ sb ≤ be) : -200000000000 ≤ abv (M (2 + 2 * i)) (M (2 + 2 * j)) (M (2 + 2 * i + 1)) (M (2 + 2 * j + 1)) be sa sb w ∧ abv (M (2 + 2 * i)) (M (2 + 2 * j)) (M (2 + 2 * i + 1)) (M (2 + 2 * j + 1)) be sa sb w ≤ 200000000000 := by
  obtain ⟨a0, a1, a2, a3, a4, a5, a6, a7⟩ := hA
  obtain ⟨b0, b1, b2, b3, b4, b5, b6, b7⟩ := hB
  unfold abv
  have p0 := mbz (x := M (2 + 2 * i) 0) (z := be) (a := 100) (b := 80000) (by omega) (by omega)
  have p1 := mbz (x := M (2 + 2 * i) 3) (z := sa) (a := 200) (b := 80000) (by omega) (by omega)
  have p2 := mbz (x := M (2 + 2 * i) 1) (z := be) (a := 100) (b := 80000) (by omega) (by omega)
  have p3 := mbz (x := M (2 + 2 * i) 4) (z := sa) (a := 200) (b := 80000) (by omega) (by omega)
  have p4 := mbz (x := M (2 + 2 * i) 2) (z := be) (a := 1000000) (b := 80000) (by omega) (by omega)
  have p5 := mbz (x := M (2 + 2 * i) 5) (z := sa) (a := 1000000) (b := 80000) (by omega) (by omega)
  have p6 := mbz (x := M (2 + 2 * j) 2) (z := be) (a := 1000000) (b := 80000) (by omega) (by omega)
  have p7 := mbz (x := M (2 + 2 * j) 5) (z := sb) (a := 1000000) (b := 80000) (by omega) (by omega)
  have q1 := hV_big a7 h1.1 h2.1 h2.2
  have q2 := hV_big b7 h1.1 h3.1 h3.2
  by_cases w0 : w = 0
  · rw [if_pos w0]; omega
  by_cases w1 : w = 1
  · rw [if_neg w0, if_pos w1]; omega
  by_cases w2 : w = 2
  · rw [if_neg w0, if_neg w1, if_pos w2]; omega
  by_cases w3 : w = 3
  · rw [if_neg w0, if_neg w1, if_neg w2, if_pos w3]; omega
  by_cases w4 : w = 4
  · rw [if_neg w0, if_neg w1, if_neg w2, if_neg w3, if_pos w4]; omega
  by_cases w5 : w = 5
  · rw [if_neg w0, if_neg w1, if_neg w2, if_neg w3, if_neg w4, if_pos w5]; omega
  by_cases w6 : w = 6
  · rw [if_neg w0, if_neg w1, if_neg w2, if_neg w3, if_neg w4, if_neg w5, if_pos w6]; omega
  rw [if_neg w0, if_neg w1, if_neg w2, if_neg w3, if_neg w4, if_neg w5, if_neg w6]; omega
set_option maxRecDepth 100000 in
set_option maxHeartbeats 4000000 in
theorem c_cross (l : Launch) {M0 M : Mem} {T N : Nat} {c : Nat → Nat} (h : IV M0 T N c M) {a b x p : Int} (ha : i32 a) (hb : i32 b) (hx : i32 x) (hp : i32 p) : Cm l yX5_cross cX5_cross 8 (some .long) 2 58 [vR 0, vI a, vI b, vI x, vI p] M (fun r M' => IV M0 T N c M' ∧ r = some (vL (fCross M0 T a b x p))) := by
  refine cmo [some (vR 0), some (vI a), some (vI b), some (vI x), some (vI p), none, none, none] ?_
  have h8 := h.g.1
  have h5 := h.t5
  have h53 := h.t53
  refine ev_iload_n dX5_cross_0 rfl ?_
  refine ev_iconst dX5_cross_1 ?_
  refine ev_bipush dX5_cross_2 (by decide) ?_
  refine em_S3 (c_isWithin l _ (by omega) (by omega) (by omega)) mX5_57 dX5_cross_4 ?_
  rintro r M ⟨rfl, z4, rfl, h4⟩
  refine ev_istore dX5_cross_7 (by decide) ?_
  refine ev_ls [some (vR _), some (vI _), some (vI _), some (vI _), some (vI _), some (vI _), none, none] rfl ?_
  refine ev_aload_n dX5_cross_9 rfl ?_
  refine ev_iload_n dX5_cross_10 rfl ?_
  refine ev_iload_n dX5_cross_11 rfl ?_
  refine em_V2 (c_areTwoTracks l (by omega) (by omega) (by omega)) mX5_80 dX5_cross_12 lay_0 ?_
  rintro r M ⟨rfl, z12, rfl, h12⟩
  refine ev_if_eq 31 dX5_cross_15 (by omega) (fun c15 => ?_) (fun c15 => ?_)
  · refine ev_ldc2 (-1000000001) kX5_87 dX5_cross_31 (by decide) ?_
    exact em_lret dX5_cross_34 ⟨h, by unfold fCross; rw [cif_neg (by omega)]⟩
  · refine ev_iload dX5_cross_18 rfl ?_
    refine ev_if_eq 31 dX5_cross_20 (by omega) (fun c20 => ?_) (fun c20 => ?_)
    · refine ev_ldc2 (-1000000001) kX5_87 dX5_cross_31 (by decide) ?_
      exact em_lret dX5_cross_34 ⟨h, by unfold fCross; rw [cif_neg (by omega)]⟩
    · refine ev_iload dX5_cross_23 rfl ?_
      refine em_S1 (c_isPart l _ (by omega)) mX5_84 dX5_cross_25 ?_
      rintro r M ⟨rfl, z25, rfl, h25⟩
      refine ev_if_ne 35 dX5_cross_28 (by omega) (fun c28 => ?_) (fun c28 => ?_)
      · obtain ⟨i, rfl⟩ : ∃ i : Nat, a = (i : Int) := ⟨a.toNat, by omega⟩
        have hi : i < T := by omega
        obtain ⟨j, rfl⟩ : ∃ j : Nat, b = (j : Int) := ⟨b.toNat, by omega⟩
        have hj : j < T := by omega
        have eF : fCross M0 T (i : Int) (j : Int) x p = gCross (M0 (2 + 2 * i)) (M0 (2 + 2 * j)) (M0 (2 + 2 * i + 1)) (M0 (2 + 2 * j + 1)) x p := by unfold fCross; rw [cif_pos (by omega)]; rfl
        rw [eF]
        clear eF
        have hTi := (h.g.2 i hi).1
        have hTj := (h.g.2 j hj).1
        have hbe := cBe_bd hTi hTj
        have ei := h.e.1 (2 + 2 * i) (by omega) (by omega)
        have ej := h.e.1 (2 + 2 * j) (by omega) (by omega)
        have ei2 := h.e.1 (2 + 2 * i + 1) (by omega) (by omega)
        have ej2 := h.e.1 (2 + 2 * j + 1) (by omega) (by omega)
        refine ev_aload_n dX5_cross_35 rfl ?_
        refine em_getR fX5_19.g dX5_cross_36 lay_0 rfl ?_
        refine ev_aload_n dX5_cross_39 rfl ?_
        refine em_getR fX5_11.g dX5_cross_40 lay_0 rfl ?_
        refine ev_iload_n dX5_cross_43 rfl ?_
        refine en_trk i dX5_cross_44 (by omega) (by omega) ?_
        refine ev_aload_n dX5_cross_45 rfl ?_
        refine em_getR fX5_11.g dX5_cross_46 lay_0 rfl ?_
        refine ev_iload_n dX5_cross_49 rfl ?_
        refine en_trk j dX5_cross_50 (by omega) (by omega) ?_
        refine em_V2 (c_find l (i := i) (j := j) (by omega) (by omega) (h.e.tr (by omega) hTi) (h.e.tr (by omega) hTj)) mX5_89 dX5_cross_51 lay_18 ?_
        rintro r M1 ⟨rfl, k51, b51, sa51, sb51, is51⟩
        rw [ei, ej] at b51 sa51 sb51 is51
        have h1 := h.c18 (M' := M1) (fun k q _ => k51 k q)
        refine ev_aload_n dX5_cross_54 rfl ?_
        refine em_getR fX5_19.g dX5_cross_55 lay_0 rfl ?_
        refine em_getI fX5_93.g dX5_cross_58 lay_18 rfl ?_
        refine ev_if_ne 68 dX5_cross_61 (by omega) (fun c61 => ?_) (fun c61 => ?_)
        · have hIs : cIs (M0 (2 + 2 * i)) (M0 (2 + 2 * j)) := by rcases is51 with q | q; (exfalso; omega); exact q.2
          obtain ⟨u1, u2, u3, u4, u5⟩ := id hIs
          have hab := fun w => abv_bd hTi hTj (be := (cBe (M0 (2 + 2 * i)) (M0 (2 + 2 * j)))) (sa := (cSA (M0 (2 + 2 * i)) (M0 (2 + 2 * j)))) (sb := (cSB (M0 (2 + 2 * i)) (M0 (2 + 2 * j)))) (w := w) (by omega) (by omega) (by omega)
          have ei3 := k51 (2 + 2 * i) (by omega)
          have ej3 := k51 (2 + 2 * j) (by omega)
          have ei4 := k51 (2 + 2 * i + 1) (by omega)
          have ej4 := k51 (2 + 2 * j + 1) (by omega)
          refine ev_aload_n dX5_cross_68 rfl ?_
          refine em_getR fX5_19.g dX5_cross_69 lay_0 rfl ?_
          refine ev_iload_n dX5_cross_72 rfl ?_
          refine ev_aload_n dX5_cross_73 rfl ?_
          refine em_getR fX5_11.g dX5_cross_74 lay_0 rfl ?_
          refine ev_iload_n dX5_cross_77 rfl ?_
          refine en_trk i dX5_cross_78 (by omega) (by omega) ?_
          refine ev_aload_n dX5_cross_79 rfl ?_
          refine em_getR fX5_11.g dX5_cross_80 lay_0 rfl ?_
          refine ev_iload_n dX5_cross_83 rfl ?_
          refine en_trk j dX5_cross_84 (by omega) (by omega) ?_
          refine em_V3 (c_aboveOf l (i := i) (j := j) (by omega) (by omega) (h1.e.tr (by omega) hTi) (h1.e.tr (by omega) hTj) (by omega) (by omega) (by omega) (by omega)) mX5_98 dX5_cross_85 lay_18 ?_
          rintro r M1 ⟨rfl, ⟨bad85, rfl⟩ | ⟨bad85, rfl⟩⟩
          · rw [ei4, ej4, ei2, ej2, b51, sa51, sb51] at bad85
            refine ev_lstore dX5_cross_88 (by decide) ?_
            refine ev_ls [some (vR _), some (vI _), some (vI _), some (vI _), some (vI _), some (vI _), some (vL _), none] rfl ?_
            refine ev_lload dX5_cross_90 rfl ?_
            refine ev_ldc2 (-1000000000000000000) kX5_102 dX5_cross_92 (by decide) ?_
            refine ev_lcmp_ne 103 dX5_cross_95 dX5_cross_96 (by omega) (by omega) (fun c95 => ?_) (fun c95 => ?_)
            · omega
            · refine ev_ldc2 (-1000000002) kX5_96 dX5_cross_99 (by decide) ?_
              exact em_lret dX5_cross_102 ⟨h1, by unfold gCross; rw [cif_pos hIs, cif_pos bad85]⟩
          · rw [ei4, ej4, ei2, ej2, b51, sa51, sb51] at bad85
            rw [ei3, ej3, ei4, ej4, ei, ej, ei2, ej2, b51, sa51, sb51]
            have hax := hab x
            generalize hX : abv (M0 (2 + 2 * i)) (M0 (2 + 2 * j)) (M0 (2 + 2 * i + 1)) (M0 (2 + 2 * j + 1)) (cBe (M0 (2 + 2 * i)) (M0 (2 + 2 * j))) (cSA (M0 (2 + 2 * i)) (M0 (2 + 2 * j))) (cSB (M0 (2 + 2 * i)) (M0 (2 + 2 * j))) x = X at *
            refine ev_lstore dX5_cross_88 (by decide) ?_
            refine ev_ls [some (vR _), some (vI _), some (vI _), some (vI _), some (vI _), some (vI _), some (vL _), none] rfl ?_
            refine ev_lload dX5_cross_90 rfl ?_
            refine ev_ldc2 (-1000000000000000000) kX5_102 dX5_cross_92 (by decide) ?_
            refine ev_lcmp_ne 103 dX5_cross_95 dX5_cross_96 (by omega) (by omega) (fun c95 => ?_) (fun c95 => ?_)
            · refine ev_aload_n dX5_cross_103 rfl ?_
              refine em_getR fX5_40.g dX5_cross_104 lay_0 rfl ?_
              refine ev_lload dX5_cross_107 rfl ?_
              refine ev_aload_n dX5_cross_109 rfl ?_
              refine em_getR fX5_19.g dX5_cross_110 lay_0 rfl ?_
              refine em_getL fX5_104.g dX5_cross_113 lay_18 rfl ?_
              refine em_V2 (c_become l (by omega) lay_52 (by omega) (by omega)) mX5_108 dX5_cross_116 lay_52 ?_
              rintro r M2 ⟨rfl, rfl⟩
              refine ev_aload_n dX5_cross_119 rfl ?_
              refine em_getR fX5_40.g dX5_cross_120 lay_0 rfl ?_
              refine ev_iload dX5_cross_123 rfl ?_
              refine em_V1 (c_partOf l (r := 52) (by omega) lay_52 (by omega)) mX5_112 dX5_cross_125 lay_52 ?_
              rintro r M3 ⟨rfl, rfl⟩
              refine em_lret dX5_cross_128 ⟨h1.c18 (fun k q1 q2 => by rw [up2_row _ _ _ _ q2, up2_row _ _ _ _ q2]), ?_⟩
              unfold gCross; rw [cif_pos hIs, cif_neg bad85, up2_same, up2_ne _ _ _ _ (Or.inr (by omega)), up2_same, b51]
              unfold frp; by_cases q : p = 0
              · rw [if_pos q, if_pos q, hX]
              · rw [if_neg q, if_neg q, hX]
            · omega
        · refine ev_ldc2 (-1000000002) kX5_96 dX5_cross_64 (by decide) ?_
          exact em_lret dX5_cross_67 ⟨h1, by unfold gCross; rcases is51 with q | q; (rw [cif_neg q.2]); (exfalso; omega)⟩
      · refine ev_ldc2 (-1000000001) kX5_87 dX5_cross_31 (by decide) ?_
        exact em_lret dX5_cross_34 ⟨h, by unfold fCross; rw [cif_neg (by omega)]⟩
set_option maxRecDepth 100000 in
set_option maxHeartbeats 4000000 in
theorem d_cross (l : Launch) {M0 M : Mem} {T N : Nat} {c : Nat → Nat} (h : IV M0 T N c M) {a b x p : Int} (ha : i32 a) (hb : i32 b) (hx : i32 x) (hp : i32 p) : Cm l yX6_cross cX6_cross 5 (some .long) 2 59 [vR 53, vI a, vI b, vI x, vI p] M (fun r M' => IV M0 T N c M' ∧ r = some (vL (fCross M0 T a b x p))) := by
  refine cmo [some (vR 53), some (vI a), some (vI b), some (vI x), some (vI p)] ?_
  have h8 := h.g.1
  have h5 := h.t5
  have h53 := h.t53
  refine ev_aload_n dX6_cross_0 rfl ?_
  refine ev_iload_n dX6_cross_1 rfl ?_
  refine em_V1 (d_isTrack l (by omega) (by omega)) mX6_58 dX6_cross_2 lay_53 ?_
  rintro r M ⟨rfl, z2, rfl, h2⟩
  refine ev_if_eq 44 dX6_cross_5 (by omega) (fun c5 => ?_) (fun c5 => ?_)
  · refine ev_ldc2 (-1000000001) kX6_90 dX6_cross_44 (by decide) ?_
    exact em_lret dX6_cross_47 ⟨h, by unfold fCross; rw [cif_neg (by omega)]⟩
  · refine ev_aload_n dX6_cross_8 rfl ?_
    refine ev_iload_n dX6_cross_9 rfl ?_
    refine em_V1 (d_isTrack l (by omega) (by omega)) mX6_58 dX6_cross_10 lay_53 ?_
    rintro r M ⟨rfl, z10, rfl, h10⟩
    refine ev_if_eq 44 dX6_cross_13 (by omega) (fun c13 => ?_) (fun c13 => ?_)
    · refine ev_ldc2 (-1000000001) kX6_90 dX6_cross_44 (by decide) ?_
      exact em_lret dX6_cross_47 ⟨h, by unfold fCross; rw [cif_neg (by omega)]⟩
    · refine ev_iload_n dX6_cross_16 rfl ?_
      refine ev_iload_n dX6_cross_17 rfl ?_
      refine ev_icmp_eq 44 dX6_cross_18 (by omega) (by omega) (fun c18 => ?_) (fun c18 => ?_)
      · refine ev_ldc2 (-1000000001) kX6_90 dX6_cross_44 (by decide) ?_
        exact em_lret dX6_cross_47 ⟨h, by unfold fCross; rw [cif_neg (by omega)]⟩
      · refine ev_iload_n dX6_cross_21 rfl ?_
        refine ev_i2l dX6_cross_22 (by omega) ?_
        refine ev_lconst0 dX6_cross_23 ?_
        refine ev_ldc2 (7) kX6_88 dX6_cross_24 (by decide) ?_
        refine em_S3 (d_in l _ (by omega) (by omega) (by omega)) mX6_44 dX6_cross_27 ?_
        rintro r M ⟨rfl, z27, rfl, h27⟩
        refine ev_if_eq 44 dX6_cross_30 (by omega) (fun c30 => ?_) (fun c30 => ?_)
        · refine ev_ldc2 (-1000000001) kX6_90 dX6_cross_44 (by decide) ?_
          exact em_lret dX6_cross_47 ⟨h, by unfold fCross; rw [cif_neg (by omega)]⟩
        · refine ev_iload dX6_cross_33 rfl ?_
          refine ev_i2l dX6_cross_35 (by omega) ?_
          refine ev_lconst0 dX6_cross_36 ?_
          refine ev_lconst1 dX6_cross_37 ?_
          refine em_S3 (d_in l _ (by omega) (by omega) (by omega)) mX6_44 dX6_cross_38 ?_
          rintro r M ⟨rfl, z38, rfl, h38⟩
          refine ev_if_ne 48 dX6_cross_41 (by omega) (fun c41 => ?_) (fun c41 => ?_)
          · obtain ⟨i, rfl⟩ : ∃ i : Nat, a = (i : Int) := ⟨a.toNat, by omega⟩
            have hi : i < T := by omega
            obtain ⟨j, rfl⟩ : ∃ j : Nat, b = (j : Int) := ⟨b.toNat, by omega⟩
            have hj : j < T := by omega
            have eF : fCross M0 T (i : Int) (j : Int) x p = gCross (M0 (2 + 2 * i)) (M0 (2 + 2 * j)) (M0 (2 + 2 * i + 1)) (M0 (2 + 2 * j + 1)) x p := by unfold fCross; rw [cif_pos (by omega)]; rfl
            rw [eF]
            clear eF
            have hTi := (h.g.2 i hi).1
            have hTj := (h.g.2 j hj).1
            have hbe := cBe_bd hTi hTj
            have ei := h.e.1 (2 + 2 * i) (by omega) (by omega)
            have ej := h.e.1 (2 + 2 * j) (by omega) (by omega)
            refine ev_aload_n dX6_cross_48 rfl ?_
            refine ev_iload_n dX6_cross_49 rfl ?_
            refine ev_iload_n dX6_cross_50 rfl ?_
            refine em_V2 (d_meet l (i := i) (j := j) (by omega) (by omega) (h.e.tr (by omega) hTi) (h.e.tr (by omega) hTj) (h.e.lk (by omega) (h.g.2 i hi).2) (h.e.lk (by omega) (h.g.2 j hj).2)) mX6_92 dX6_cross_51 lay_53 ?_
            rintro r M1 ⟨k51, f51, b51, sa51, sb51, z51, rfl, is51⟩
            rw [ei, ej] at b51 sa51 sb51 is51
            have h1 := h.fr (M' := M1) ⟨k51, fun f a b c _ _ => f51 f a b c⟩
            refine ev_if_ne 61 dX6_cross_54 (by omega) (fun c54 => ?_) (fun c54 => ?_)
            · refine ev_iload_n dX6_cross_61 rfl ?_
              have hIs : cIs (M0 (2 + 2 * i)) (M0 (2 + 2 * j)) := by rcases is51 with q | q; (exfalso; omega); exact q.2
              obtain ⟨u1, u2, u3, u4, u5⟩ := id hIs
              have hab := fun w => abv_bd hTi hTj (be := (cBe (M0 (2 + 2 * i)) (M0 (2 + 2 * j)))) (sa := (cSA (M0 (2 + 2 * i)) (M0 (2 + 2 * j)))) (sb := (cSB (M0 (2 + 2 * i)) (M0 (2 + 2 * j)))) (w := w) (by omega) (by omega) (by omega)
              have hL1 := h1.e.lk (show i < 8 by omega) (h.g.2 i hi).2
              have hL2 := h1.e.lk (show j < 8 by omega) (h.g.2 j hj).2
              have gi := h1.e.1 (2 + 2 * i) (by omega) (by omega)
              have gj := h1.e.1 (2 + 2 * j) (by omega) (by omega)
              have gi2 := h1.e.1 (2 + 2 * i + 1) (by omega) (by omega)
              have gj2 := h1.e.1 (2 + 2 * j + 1) (by omega) (by omega)
              obtain ⟨l0, l1, l2, l3, l4, l5, -, -⟩ := id hL1
              obtain ⟨m0, m1, m2, m3, m4, m5, -, -⟩ := id hL2
              rw [gi] at l0 l1 l2 l3 l4 l5
              rw [gj] at m0 m1 m2 m3 m4 m5
              obtain ⟨t0, t1, t2, t3, t4, t5, -, -⟩ := id hTi
              obtain ⟨v0, v1, v2, v3, v4, v5, -, -⟩ := id hTj
              by_cases q0 : x = 0
              · subst q0
                refine ev_tabIn 100 dX6_cross_62 (by omega) (by omega) (by omega) rfl ?_
                refine ev_aload_n dX6_cross_100 rfl ?_
                refine ev_aload_n dX6_cross_101 rfl ?_
                refine em_getR fX6_7.g dX6_cross_102 lay_53 rfl ?_
                refine ev_bipush dX6_cross_105 (by decide) ?_
                refine ev_iload_n dX6_cross_107 rfl ?_
                refine ev_imul dX6_cross_108 ?_
                refine en_iald (6 * i) dX6_cross_109 lay_54 (by omega) (by omega) ?_
                refine ev_i2l dX6_cross_110 (by omega) ?_
                refine ev_aload_n dX6_cross_111 rfl ?_
                refine em_getR fX6_7.g dX6_cross_112 lay_53 rfl ?_
                refine ev_bipush dX6_cross_115 (by decide) ?_
                refine ev_iload_n dX6_cross_117 rfl ?_
                refine ev_imul dX6_cross_118 ?_
                refine ev_iconst dX6_cross_119 ?_
                refine ev_iadd dX6_cross_120 ?_
                refine en_iald ((6 * i) + 2) dX6_cross_121 lay_54 (by omega) (by omega) ?_
                refine ev_i2l dX6_cross_122 (by omega) ?_
                refine ev_aload_n dX6_cross_123 rfl ?_
                refine em_getL fX6_73.g dX6_cross_124 lay_53 rfl ?_
                refine em_V3 (d_between l) mX6_97 dX6_cross_127 lay_53 ?_
                rintro r M1 ⟨rfl, rfl⟩
                refine ev_aload_n dX6_cross_130 rfl ?_
                refine em_getL fX6_69.g dX6_cross_131 lay_53 rfl ?_
                refine ev_iload dX6_cross_134 rfl ?_
                rw [l0, l2, b51, sa51, show (M0 (2 + 2 * i)) 0 + (M0 (2 + 2 * i)) 3 - (M0 (2 + 2 * i)) 0 = (M0 (2 + 2 * i)) 3 by omega, show (M0 (2 + 2 * i)) 0 * (cBe (M0 (2 + 2 * i)) (M0 (2 + 2 * j))) + (M0 (2 + 2 * i)) 3 * (cSA (M0 (2 + 2 * i)) (M0 (2 + 2 * j))) = abv (M0 (2 + 2 * i)) (M0 (2 + 2 * j)) (M0 (2 + 2 * i + 1)) (M0 (2 + 2 * j + 1)) (cBe (M0 (2 + 2 * i)) (M0 (2 + 2 * j))) (cSA (M0 (2 + 2 * i)) (M0 (2 + 2 * j))) (cSB (M0 (2 + 2 * i)) (M0 (2 + 2 * j))) 0 from rfl]
                have hax := hab 0
                refine em_S3 (d_part l _ (by omega) (by omega) hp) mX6_101 dX6_cross_136 ?_
                rintro r M1 ⟨rfl, rfl⟩
                exact em_lret dX6_cross_139 ⟨h1, by unfold gCross; rw [cif_pos hIs, cif_neg (by omega)]; rfl⟩
              by_cases q1 : x = 1
              · subst q1
                refine ev_tabIn 140 dX6_cross_62 (by omega) (by omega) (by omega) rfl ?_
                refine ev_aload_n dX6_cross_140 rfl ?_
                refine ev_aload_n dX6_cross_141 rfl ?_
                refine em_getR fX6_7.g dX6_cross_142 lay_53 rfl ?_
                refine ev_bipush dX6_cross_145 (by decide) ?_
                refine ev_iload_n dX6_cross_147 rfl ?_
                refine ev_imul dX6_cross_148 ?_
                refine ev_iconst dX6_cross_149 ?_
                refine ev_iadd dX6_cross_150 ?_
                refine en_iald ((6 * i) + 1) dX6_cross_151 lay_54 (by omega) (by omega) ?_
                refine ev_i2l dX6_cross_152 (by omega) ?_
                refine ev_aload_n dX6_cross_153 rfl ?_
                refine em_getR fX6_7.g dX6_cross_154 lay_53 rfl ?_
                refine ev_bipush dX6_cross_157 (by decide) ?_
                refine ev_iload_n dX6_cross_159 rfl ?_
                refine ev_imul dX6_cross_160 ?_
                refine ev_iconst dX6_cross_161 ?_
                refine ev_iadd dX6_cross_162 ?_
                refine en_iald ((6 * i) + 3) dX6_cross_163 lay_54 (by omega) (by omega) ?_
                refine ev_i2l dX6_cross_164 (by omega) ?_
                refine ev_aload_n dX6_cross_165 rfl ?_
                refine em_getL fX6_73.g dX6_cross_166 lay_53 rfl ?_
                refine em_V3 (d_between l) mX6_97 dX6_cross_169 lay_53 ?_
                rintro r M1 ⟨rfl, rfl⟩
                refine ev_aload_n dX6_cross_172 rfl ?_
                refine em_getL fX6_69.g dX6_cross_173 lay_53 rfl ?_
                refine ev_iload dX6_cross_176 rfl ?_
                rw [l1, l3, b51, sa51, show (M0 (2 + 2 * i)) 1 + (M0 (2 + 2 * i)) 4 - (M0 (2 + 2 * i)) 1 = (M0 (2 + 2 * i)) 4 by omega, show (M0 (2 + 2 * i)) 1 * (cBe (M0 (2 + 2 * i)) (M0 (2 + 2 * j))) + (M0 (2 + 2 * i)) 4 * (cSA (M0 (2 + 2 * i)) (M0 (2 + 2 * j))) = abv (M0 (2 + 2 * i)) (M0 (2 + 2 * j)) (M0 (2 + 2 * i + 1)) (M0 (2 + 2 * j + 1)) (cBe (M0 (2 + 2 * i)) (M0 (2 + 2 * j))) (cSA (M0 (2 + 2 * i)) (M0 (2 + 2 * j))) (cSB (M0 (2 + 2 * i)) (M0 (2 + 2 * j))) 1 from rfl]
                have hax := hab 1
                refine em_S3 (d_part l _ (by omega) (by omega) hp) mX6_101 dX6_cross_178 ?_
                rintro r M1 ⟨rfl, rfl⟩
                exact em_lret dX6_cross_181 ⟨h1, by unfold gCross; rw [cif_pos hIs, cif_neg (by omega)]; rfl⟩
              by_cases q2 : x = 2
              · subst q2
                refine ev_tabIn 182 dX6_cross_62 (by omega) (by omega) (by omega) rfl ?_
                refine ev_aload_n dX6_cross_182 rfl ?_
                refine ev_aload_n dX6_cross_183 rfl ?_
                refine em_getR fX6_7.g dX6_cross_184 lay_53 rfl ?_
                refine ev_bipush dX6_cross_187 (by decide) ?_
                refine ev_iload_n dX6_cross_189 rfl ?_
                refine ev_imul dX6_cross_190 ?_
                refine ev_iconst dX6_cross_191 ?_
                refine ev_iadd dX6_cross_192 ?_
                refine en_iald ((6 * i) + 4) dX6_cross_193 lay_54 (by omega) (by omega) ?_
                refine ev_i2l dX6_cross_194 (by omega) ?_
                refine ev_aload_n dX6_cross_195 rfl ?_
                refine em_getR fX6_7.g dX6_cross_196 lay_53 rfl ?_
                refine ev_bipush dX6_cross_199 (by decide) ?_
                refine ev_iload_n dX6_cross_201 rfl ?_
                refine ev_imul dX6_cross_202 ?_
                refine ev_iconst dX6_cross_203 ?_
                refine ev_iadd dX6_cross_204 ?_
                refine en_iald ((6 * i) + 5) dX6_cross_205 lay_54 (by omega) (by omega) ?_
                refine ev_i2l dX6_cross_206 (by omega) ?_
                refine ev_aload_n dX6_cross_207 rfl ?_
                refine em_getL fX6_73.g dX6_cross_208 lay_53 rfl ?_
                refine em_V3 (d_between l) mX6_97 dX6_cross_211 lay_53 ?_
                rintro r M1 ⟨rfl, rfl⟩
                refine ev_aload_n dX6_cross_214 rfl ?_
                refine em_getL fX6_69.g dX6_cross_215 lay_53 rfl ?_
                refine ev_iload dX6_cross_218 rfl ?_
                rw [l4, l5, b51, sa51, show (M0 (2 + 2 * i)) 2 + (M0 (2 + 2 * i)) 5 - (M0 (2 + 2 * i)) 2 = (M0 (2 + 2 * i)) 5 by omega, show (M0 (2 + 2 * i)) 2 * (cBe (M0 (2 + 2 * i)) (M0 (2 + 2 * j))) + (M0 (2 + 2 * i)) 5 * (cSA (M0 (2 + 2 * i)) (M0 (2 + 2 * j))) = abv (M0 (2 + 2 * i)) (M0 (2 + 2 * j)) (M0 (2 + 2 * i + 1)) (M0 (2 + 2 * j + 1)) (cBe (M0 (2 + 2 * i)) (M0 (2 + 2 * j))) (cSA (M0 (2 + 2 * i)) (M0 (2 + 2 * j))) (cSB (M0 (2 + 2 * i)) (M0 (2 + 2 * j))) 2 from rfl]
                have hax := hab 2
                refine em_S3 (d_part l _ (by omega) (by omega) hp) mX6_101 dX6_cross_220 ?_
                rintro r M1 ⟨rfl, rfl⟩
                exact em_lret dX6_cross_223 ⟨h1, by unfold gCross; rw [cif_pos hIs, cif_neg (by omega)]; rfl⟩
              by_cases q3 : x = 3
              · subst q3
                refine ev_tabIn 224 dX6_cross_62 (by omega) (by omega) (by omega) rfl ?_
                refine ev_aload_n dX6_cross_224 rfl ?_
                refine ev_aload_n dX6_cross_225 rfl ?_
                refine em_getR fX6_7.g dX6_cross_226 lay_53 rfl ?_
                refine ev_bipush dX6_cross_229 (by decide) ?_
                refine ev_iload_n dX6_cross_231 rfl ?_
                refine ev_imul dX6_cross_232 ?_
                refine ev_iconst dX6_cross_233 ?_
                refine ev_iadd dX6_cross_234 ?_
                refine en_iald ((6 * j) + 4) dX6_cross_235 lay_54 (by omega) (by omega) ?_
                refine ev_i2l dX6_cross_236 (by omega) ?_
                refine ev_aload_n dX6_cross_237 rfl ?_
                refine em_getR fX6_7.g dX6_cross_238 lay_53 rfl ?_
                refine ev_bipush dX6_cross_241 (by decide) ?_
                refine ev_iload_n dX6_cross_243 rfl ?_
                refine ev_imul dX6_cross_244 ?_
                refine ev_iconst dX6_cross_245 ?_
                refine ev_iadd dX6_cross_246 ?_
                refine en_iald ((6 * j) + 5) dX6_cross_247 lay_54 (by omega) (by omega) ?_
                refine ev_i2l dX6_cross_248 (by omega) ?_
                refine ev_aload_n dX6_cross_249 rfl ?_
                refine em_getL fX6_76.g dX6_cross_250 lay_53 rfl ?_
                refine em_V3 (d_between l) mX6_97 dX6_cross_253 lay_53 ?_
                rintro r M1 ⟨rfl, rfl⟩
                refine ev_aload_n dX6_cross_256 rfl ?_
                refine em_getL fX6_69.g dX6_cross_257 lay_53 rfl ?_
                refine ev_iload dX6_cross_260 rfl ?_
                rw [m4, m5, b51, sb51, show (M0 (2 + 2 * j)) 2 + (M0 (2 + 2 * j)) 5 - (M0 (2 + 2 * j)) 2 = (M0 (2 + 2 * j)) 5 by omega, show (M0 (2 + 2 * j)) 2 * (cBe (M0 (2 + 2 * i)) (M0 (2 + 2 * j))) + (M0 (2 + 2 * j)) 5 * (cSB (M0 (2 + 2 * i)) (M0 (2 + 2 * j))) = abv (M0 (2 + 2 * i)) (M0 (2 + 2 * j)) (M0 (2 + 2 * i + 1)) (M0 (2 + 2 * j + 1)) (cBe (M0 (2 + 2 * i)) (M0 (2 + 2 * j))) (cSA (M0 (2 + 2 * i)) (M0 (2 + 2 * j))) (cSB (M0 (2 + 2 * i)) (M0 (2 + 2 * j))) 3 from rfl]
                have hax := hab 3
                refine em_S3 (d_part l _ (by omega) (by omega) hp) mX6_101 dX6_cross_262 ?_
                rintro r M1 ⟨rfl, rfl⟩
                exact em_lret dX6_cross_265 ⟨h1, by unfold gCross; rw [cif_pos hIs, cif_neg (by omega)]; rfl⟩
              by_cases q4 : x = 4
              · subst q4
                refine ev_tabIn 266 dX6_cross_62 (by omega) (by omega) (by omega) rfl ?_
                refine ev_aload_n dX6_cross_266 rfl ?_
                refine em_getL fX6_73.g dX6_cross_267 lay_53 rfl ?_
                refine ev_aload_n dX6_cross_270 rfl ?_
                refine em_getL fX6_69.g dX6_cross_271 lay_53 rfl ?_
                refine ev_iload dX6_cross_274 rfl ?_
                rw [b51, sa51, show (cSA (M0 (2 + 2 * i)) (M0 (2 + 2 * j))) = abv (M0 (2 + 2 * i)) (M0 (2 + 2 * j)) (M0 (2 + 2 * i + 1)) (M0 (2 + 2 * j + 1)) (cBe (M0 (2 + 2 * i)) (M0 (2 + 2 * j))) (cSA (M0 (2 + 2 * i)) (M0 (2 + 2 * j))) (cSB (M0 (2 + 2 * i)) (M0 (2 + 2 * j))) 4 from rfl]
                have hax := hab 4
                refine em_S3 (d_part l _ (by omega) (by omega) hp) mX6_101 dX6_cross_276 ?_
                rintro r M1 ⟨rfl, rfl⟩
                exact em_lret dX6_cross_279 ⟨h1, by unfold gCross; rw [cif_pos hIs, cif_neg (by omega)]; rfl⟩
              by_cases q5 : x = 5
              · subst q5
                refine ev_tabIn 280 dX6_cross_62 (by omega) (by omega) (by omega) rfl ?_
                refine ev_aload_n dX6_cross_280 rfl ?_
                refine em_getL fX6_76.g dX6_cross_281 lay_53 rfl ?_
                refine ev_aload_n dX6_cross_284 rfl ?_
                refine em_getL fX6_69.g dX6_cross_285 lay_53 rfl ?_
                refine ev_iload dX6_cross_288 rfl ?_
                rw [b51, sb51, show (cSB (M0 (2 + 2 * i)) (M0 (2 + 2 * j))) = abv (M0 (2 + 2 * i)) (M0 (2 + 2 * j)) (M0 (2 + 2 * i + 1)) (M0 (2 + 2 * j + 1)) (cBe (M0 (2 + 2 * i)) (M0 (2 + 2 * j))) (cSA (M0 (2 + 2 * i)) (M0 (2 + 2 * j))) (cSB (M0 (2 + 2 * i)) (M0 (2 + 2 * j))) 5 from rfl]
                have hax := hab 5
                refine em_S3 (d_part l _ (by omega) (by omega) hp) mX6_101 dX6_cross_290 ?_
                rintro r M1 ⟨rfl, rfl⟩
                exact em_lret dX6_cross_293 ⟨h1, by unfold gCross; rw [cif_pos hIs, cif_neg (by omega)]; rfl⟩
              by_cases q6 : x = 6
              · subst q6
                refine ev_tabOut 294 dX6_cross_62 (by omega) (by omega) ?_
                refine ev_aload_n dX6_cross_294 rfl ?_
                refine ev_iload_n dX6_cross_295 rfl ?_
                refine ev_bipush dX6_cross_296 (by decide) ?_
                refine ev_icmp_ne 305 dX6_cross_298 (by omega) (by omega) (fun c298 => ?_) (fun c298 => ?_)
                · omega
                · refine ev_iload_n dX6_cross_301 rfl ?_
                  refine ev_goto 306 dX6_cross_302 ?_
                  refine ev_iload_n dX6_cross_306 rfl ?_
                  refine ev_bipush dX6_cross_307 (by decide) ?_
                  refine ev_icmp_ne 319 dX6_cross_309 (by omega) (by omega) (fun c309 => ?_) (fun c309 => ?_)
                  · omega
                  · refine ev_aload_n dX6_cross_312 rfl ?_
                    refine em_getL fX6_73.g dX6_cross_313 lay_53 rfl ?_
                    refine ev_goto 323 dX6_cross_316 ?_
                    refine em_V2 (d_hasHeight l (i := i) (sh := M1 53 7) (by omega) (h1.e.tr (by omega) hTi) hL1 (by omega) (by omega) (by omega) (by omega)) mX6_105 dX6_cross_323 lay_53 ?_
                    rintro r M2 ⟨rfl, z323, rfl, h323⟩
                    rw [gi2, b51, sa51] at h323
                    refine ev_if_eq 345 dX6_cross_326 (by omega) (fun c326 => ?_) (fun c326 => ?_)
                    · refine ev_ldc2 (-1000000002) kX6_95 dX6_cross_345 (by decide) ?_
                      exact em_lret dX6_cross_348 ⟨h1.fr ⟨fun k hk => up2_row _ _ _ _ hk, fun f a b c d _ => up2_ne _ _ _ _ (Or.inr d)⟩, by unfold gCross; rw [cif_pos hIs]; rcases h323 with q | q; (first | (exfalso; omega) | (rw [cif_pos (Or.inl ⟨rfl, q.2⟩)])); (first | (exfalso; omega) | (rw [cif_neg (fun q2 => by rcases q2 with q2 | q2; (exact q2.2 q.2); (omega))]; rfl))⟩
                    · refine ev_aload_n dX6_cross_329 rfl ?_
                      refine em_getL fX6_79.g dX6_cross_330 lay_53 rfl ?_
                      refine ev_aload_n dX6_cross_333 rfl ?_
                      refine em_getL fX6_69.g dX6_cross_334 lay_53 rfl ?_
                      refine ev_iload dX6_cross_337 rfl ?_
                      rw [up2_same, up2_ne _ _ _ _ (Or.inr (show 6 ≠ 9 by omega)), gi2, b51, sa51, show hV (M0 (2 + 2 * i + 1)) (cSA (M0 (2 + 2 * i)) (M0 (2 + 2 * j))) (cBe (M0 (2 + 2 * i)) (M0 (2 + 2 * j))) = abv (M0 (2 + 2 * i)) (M0 (2 + 2 * j)) (M0 (2 + 2 * i + 1)) (M0 (2 + 2 * j + 1)) (cBe (M0 (2 + 2 * i)) (M0 (2 + 2 * j))) (cSA (M0 (2 + 2 * i)) (M0 (2 + 2 * j))) (cSB (M0 (2 + 2 * i)) (M0 (2 + 2 * j))) 6 from rfl]
                      have hax := hab 6
                      refine em_S3 (d_part l _ (by omega) (by omega) hp) mX6_101 dX6_cross_339 ?_
                      rintro r M2 ⟨rfl, rfl⟩
                      refine ev_goto 348 dX6_cross_342 ?_
                      exact em_lret dX6_cross_348 ⟨h1.fr ⟨fun k hk => up2_row _ _ _ _ hk, fun f a b c d _ => up2_ne _ _ _ _ (Or.inr d)⟩, by unfold gCross; rw [cif_pos hIs]; rcases h323 with q | q; (first | (exfalso; omega) | (rw [cif_pos (Or.inl ⟨rfl, q.2⟩)])); (first | (exfalso; omega) | (rw [cif_neg (fun q2 => by rcases q2 with q2 | q2; (exact q2.2 q.2); (omega))]; rfl))⟩
              · have q7 : x = 7 := by omega
                subst q7
                refine ev_tabOut 294 dX6_cross_62 (by omega) (by omega) ?_
                refine ev_aload_n dX6_cross_294 rfl ?_
                refine ev_iload_n dX6_cross_295 rfl ?_
                refine ev_bipush dX6_cross_296 (by decide) ?_
                refine ev_icmp_ne 305 dX6_cross_298 (by omega) (by omega) (fun c298 => ?_) (fun c298 => ?_)
                · refine ev_iload_n dX6_cross_305 rfl ?_
                  refine ev_iload_n dX6_cross_306 rfl ?_
                  refine ev_bipush dX6_cross_307 (by decide) ?_
                  refine ev_icmp_ne 319 dX6_cross_309 (by omega) (by omega) (fun c309 => ?_) (fun c309 => ?_)
                  · refine ev_aload_n dX6_cross_319 rfl ?_
                    refine em_getL fX6_76.g dX6_cross_320 lay_53 rfl ?_
                    refine em_V2 (d_hasHeight l (i := j) (sh := M1 53 8) (by omega) (h1.e.tr (by omega) hTj) hL2 (by omega) (by omega) (by omega) (by omega)) mX6_105 dX6_cross_323 lay_53 ?_
                    rintro r M2 ⟨rfl, z323, rfl, h323⟩
                    rw [gj2, b51, sb51] at h323
                    refine ev_if_eq 345 dX6_cross_326 (by omega) (fun c326 => ?_) (fun c326 => ?_)
                    · refine ev_ldc2 (-1000000002) kX6_95 dX6_cross_345 (by decide) ?_
                      exact em_lret dX6_cross_348 ⟨h1.fr ⟨fun k hk => up2_row _ _ _ _ hk, fun f a b c d _ => up2_ne _ _ _ _ (Or.inr d)⟩, by unfold gCross; rw [cif_pos hIs]; rcases h323 with q | q; (first | (exfalso; omega) | (rw [cif_pos (Or.inr ⟨rfl, q.2⟩)])); (first | (exfalso; omega) | (rw [cif_neg (fun q2 => by rcases q2 with q2 | q2; (omega); (exact q2.2 q.2))]; rfl))⟩
                    · refine ev_aload_n dX6_cross_329 rfl ?_
                      refine em_getL fX6_79.g dX6_cross_330 lay_53 rfl ?_
                      refine ev_aload_n dX6_cross_333 rfl ?_
                      refine em_getL fX6_69.g dX6_cross_334 lay_53 rfl ?_
                      refine ev_iload dX6_cross_337 rfl ?_
                      rw [up2_same, up2_ne _ _ _ _ (Or.inr (show 6 ≠ 9 by omega)), gj2, b51, sb51, show hV (M0 (2 + 2 * j + 1)) (cSB (M0 (2 + 2 * i)) (M0 (2 + 2 * j))) (cBe (M0 (2 + 2 * i)) (M0 (2 + 2 * j))) = abv (M0 (2 + 2 * i)) (M0 (2 + 2 * j)) (M0 (2 + 2 * i + 1)) (M0 (2 + 2 * j + 1)) (cBe (M0 (2 + 2 * i)) (M0 (2 + 2 * j))) (cSA (M0 (2 + 2 * i)) (M0 (2 + 2 * j))) (cSB (M0 (2 + 2 * i)) (M0 (2 + 2 * j))) 7 from rfl]
                      have hax := hab 7
                      refine em_S3 (d_part l _ (by omega) (by omega) hp) mX6_101 dX6_cross_339 ?_
                      rintro r M2 ⟨rfl, rfl⟩
                      refine ev_goto 348 dX6_cross_342 ?_
                      exact em_lret dX6_cross_348 ⟨h1.fr ⟨fun k hk => up2_row _ _ _ _ hk, fun f a b c d _ => up2_ne _ _ _ _ (Or.inr d)⟩, by unfold gCross; rw [cif_pos hIs]; rcases h323 with q | q; (first | (exfalso; omega) | (rw [cif_pos (Or.inr ⟨rfl, q.2⟩)])); (first | (exfalso; omega) | (rw [cif_neg (fun q2 => by rcases q2 with q2 | q2; (omega); (exact q2.2 q.2))]; rfl))⟩
                  · omega
                · omega
            · refine ev_ldc2 (-1000000002) kX6_95 dX6_cross_57 (by decide) ?_
              exact em_lret dX6_cross_60 ⟨h1, by unfold gCross; rcases is51 with q | q; (rw [cif_neg q.2]); (exfalso; omega)⟩
          · refine ev_ldc2 (-1000000001) kX6_90 dX6_cross_44 (by decide) ?_
            exact em_lret dX6_cross_47 ⟨h, by unfold fCross; rw [cif_neg (by omega)]⟩
