theorem sm_tri (F : Nat → Nat → Int) (T : Nat) : sm T (fun a => sm T (fun b => if a < b then F a b else 0)) = sm T (fun b => sm b (fun a => F a b)) := (sm_pairs F T).symm
theorem d_befor (l : Launch) {M0 M : Mem} {T N : Nat} {c : Nat → Nat} (h : IV M0 T N c M) : Cm l yX6_before cX6_before 5 (some .long) 3 84 [vR 53] M (fun r M' => IV M0 T N c M' ∧ r = some (vL (fBefore M0 T))) := by
  refine cm_imp ?_ (d_before l h.e h.g h.t53)
  rintro r M' ⟨h1, h2⟩
  exact ⟨h.fr h1, by rw [h2, sm_tri]; rfl⟩
set_option maxRecDepth 100000 in
set_option maxHeartbeats 4000000 in
theorem d_crosses (l : Launch) {M0 M : Mem} {T N : Nat} {c : Nat → Nat} (h : IV M0 T N c M) {a b : Int} (ha : i32 a) (hb : i32 b) : Cm l yX6_crosses cX6_crosses 3 (some .int) 2 59 [vR 53, vI a, vI b] M (fun r M' => IV M0 T N c M' ∧ r = some (vI (fCrosses M0 T a b))) := by
  refine cmo [some (vR 53), some (vI a), some (vI b)] ?_
  have h8 := h.g.1
  have h5 := h.t5
  have h53 := h.t53
  refine ev_aload_n dX6_crosses_0 rfl ?_
  refine ev_iload_n dX6_crosses_1 rfl ?_
  refine em_V1 (d_isTrack l (by omega) (by omega)) mX6_58 dX6_crosses_2 lay_53 ?_
  rintro r M ⟨rfl, z2, rfl, h2⟩
  refine ev_if_eq 21 dX6_crosses_5 (by omega) (fun c5 => ?_) (fun c5 => ?_)
  · refine ev_iconst dX6_crosses_21 ?_
    refine ev_goto 39 dX6_crosses_22 ?_
    exact em_iret dX6_crosses_39 ⟨h, by unfold fCrosses; rw [cif_neg (by omega)]⟩
  · refine ev_aload_n dX6_crosses_8 rfl ?_
    refine ev_iload_n dX6_crosses_9 rfl ?_
    refine em_V1 (d_isTrack l (by omega) (by omega)) mX6_58 dX6_crosses_10 lay_53 ?_
    rintro r M ⟨rfl, z10, rfl, h10⟩
    refine ev_if_eq 21 dX6_crosses_13 (by omega) (fun c13 => ?_) (fun c13 => ?_)
    · refine ev_iconst dX6_crosses_21 ?_
      refine ev_goto 39 dX6_crosses_22 ?_
      exact em_iret dX6_crosses_39 ⟨h, by unfold fCrosses; rw [cif_neg (by omega)]⟩
    · refine ev_iload_n dX6_crosses_16 rfl ?_
      refine ev_iload_n dX6_crosses_17 rfl ?_
      refine ev_icmp_ne 25 dX6_crosses_18 (by omega) (by omega) (fun c18 => ?_) (fun c18 => ?_)
      · obtain ⟨i, rfl⟩ : ∃ i : Nat, a = (i : Int) := ⟨a.toNat, by omega⟩
        have hi : i < T := by omega
        obtain ⟨j, rfl⟩ : ∃ j : Nat, b = (j : Int) := ⟨b.toNat, by omega⟩
        have hj : j < T := by omega
        have ei := h.e.1 (2 + 2 * i) (by omega) (by omega)
        have ej := h.e.1 (2 + 2 * j) (by omega) (by omega)
        refine ev_aload_n dX6_crosses_25 rfl ?_
        refine ev_iload_n dX6_crosses_26 rfl ?_
        refine ev_iload_n dX6_crosses_27 rfl ?_
        refine em_V2 (d_meet l (i := i) (j := j) (by omega) (by omega) (h.e.tr (by omega) (h.g.2 i hi).1) (h.e.tr (by omega) (h.g.2 j hj).1) (h.e.lk (by omega) (h.g.2 i hi).2) (h.e.lk (by omega) (h.g.2 j hj).2)) mX6_92 dX6_crosses_28 lay_53 ?_
        rintro r M1 ⟨k28, f28, b28, sa28, sb28, z28, rfl, is28⟩
        rw [ei, ej] at is28
        have h1 := h.fr (M' := M1) ⟨k28, fun f a b c _ _ => f28 f a b c⟩
        refine ev_if_eq 38 dX6_crosses_31 (by omega) (fun c31 => ?_) (fun c31 => ?_)
        · refine ev_iconst dX6_crosses_38 ?_
          exact em_iret dX6_crosses_39 ⟨h1, by unfold fCrosses; rw [cif_pos (by omega)]; show _ = some (vI (cif (cIs (M0 (2 + 2 * i)) (M0 (2 + 2 * j))) 1 0)); rcases is28 with q | q <;> first | (exfalso; omega) | rw [cif_pos q.2] | rw [cif_neg q.2]⟩
        · refine ev_iconst dX6_crosses_34 ?_
          refine ev_goto 39 dX6_crosses_35 ?_
          exact em_iret dX6_crosses_39 ⟨h1, by unfold fCrosses; rw [cif_pos (by omega)]; show _ = some (vI (cif (cIs (M0 (2 + 2 * i)) (M0 (2 + 2 * j))) 1 0)); rcases is28 with q | q <;> first | (exfalso; omega) | rw [cif_pos q.2] | rw [cif_neg q.2]⟩
      · refine ev_iconst dX6_crosses_21 ?_
        refine ev_goto 39 dX6_crosses_22 ?_
        exact em_iret dX6_crosses_39 ⟨h, by unfold fCrosses; rw [cif_neg (by omega)]⟩
set_option maxRecDepth 100000 in
set_option maxHeartbeats 4000000 in
theorem d_difference (l : Launch) {M0 M : Mem} {T N : Nat} {c : Nat → Nat} (h : IV M0 T N c M) {a b : Int} (ha : i32 a) (hb : i32 b) : Cm l yX6_difference cX6_difference 3 (some .int) 3 84 [vR 53, vI a, vI b] M (fun r M' => IV M0 T N c M' ∧ r = some (vI (fDiff M0 T a b))) := by
  refine cmo [some (vR 53), some (vI a), some (vI b)] ?_
  have h8 := h.g.1
  have h5 := h.t5
  have h53 := h.t53
  refine ev_aload_n dX6_difference_0 rfl ?_
  refine ev_iload_n dX6_difference_1 rfl ?_
  refine em_V1 (d_isTrack l (by omega) (by omega)) mX6_58 dX6_difference_2 lay_53 ?_
  rintro r M ⟨rfl, z2, rfl, h2⟩
  refine ev_if_eq 21 dX6_difference_5 (by omega) (fun c5 => ?_) (fun c5 => ?_)
  · refine ev_ldc (-1000000001) kX6_117 dX6_difference_21 (by decide) ?_
    exact em_iret dX6_difference_23 ⟨h, by unfold fDiff; rw [cif_neg (by omega)]⟩
  · refine ev_aload_n dX6_difference_8 rfl ?_
    refine ev_iload_n dX6_difference_9 rfl ?_
    refine em_V1 (d_isTrack l (by omega) (by omega)) mX6_58 dX6_difference_10 lay_53 ?_
    rintro r M ⟨rfl, z10, rfl, h10⟩
    refine ev_if_eq 21 dX6_difference_13 (by omega) (fun c13 => ?_) (fun c13 => ?_)
    · refine ev_ldc (-1000000001) kX6_117 dX6_difference_21 (by decide) ?_
      exact em_iret dX6_difference_23 ⟨h, by unfold fDiff; rw [cif_neg (by omega)]⟩
    · refine ev_iload_n dX6_difference_16 rfl ?_
      refine ev_iload_n dX6_difference_17 rfl ?_
      refine ev_icmp_lt 24 dX6_difference_18 (by omega) (by omega) (fun c18 => ?_) (fun c18 => ?_)
      · obtain ⟨i, rfl⟩ : ∃ i : Nat, a = (i : Int) := ⟨a.toNat, by omega⟩
        have hi : i < T := by omega
        obtain ⟨j, rfl⟩ : ∃ j : Nat, b = (j : Int) := ⟨b.toNat, by omega⟩
        have hj : j < T := by omega
        refine ev_aload_n dX6_difference_24 rfl ?_
        refine ev_iload_n dX6_difference_25 rfl ?_
        refine ev_iload_n dX6_difference_26 rfl ?_
        refine em_V2 (d_differ l (i := i) (j := j) h.e h.g hi hj) mX6_118 dX6_difference_27 lay_53 ?_
        rintro r M1 ⟨k27, f27, e27, z27, rfl, d27⟩
        have h1 := h.fr (M' := M1) ⟨k27, f27⟩
        refine ev_if_eq 41 dX6_difference_30 (by omega) (fun c30 => ?_) (fun c30 => ?_)
        · refine ev_ldc (-1000000002) kX6_121 dX6_difference_41 (by decide) ?_
          exact em_iret dX6_difference_43 ⟨h1, by unfold fDiff; rw [cif_pos (by omega)]; show _ = some (vI (cif (eD M0 i j) (wD M0 i j) (-1000000002))); rcases d27 with q | q <;> first | (exfalso; omega) | rw [cif_neg q.2] | rw [cif_pos q.2.1, q.2.2]⟩
        · refine ev_aload_n dX6_difference_33 rfl ?_
          refine em_getL fX6_114.g dX6_difference_34 lay_53 rfl ?_
          refine ev_l2i dX6_difference_37 ?_
          refine ev_goto 43 dX6_difference_38 ?_
          exact em_iret dX6_difference_43 ⟨h1, by unfold fDiff; rw [cif_pos (by omega)]; show _ = some (vI (cif (eD M0 i j) (wD M0 i j) (-1000000002))); rcases d27 with q | q <;> first | (exfalso; omega) | rw [cif_neg q.2] | rw [cif_pos q.2.1, q.2.2]⟩
      · refine ev_ldc (-1000000001) kX6_117 dX6_difference_21 (by decide) ?_
        exact em_iret dX6_difference_23 ⟨h, by unfold fDiff; rw [cif_neg (by omega)]⟩
set_option maxRecDepth 100000 in
set_option maxHeartbeats 4000000 in
theorem d_loop (l : Launch) {M0 M : Mem} {T N : Nat} {c : Nat → Nat} (h : IV M0 T N c M) {a b d : Int} (ha : i32 a) (hb : i32 b) (hd : i32 d) : Cm l yX6_loop cX6_loop 6 (some .int) 3 84 [vR 53, vI a, vI b, vI d] M (fun r M' => IV M0 T N c M' ∧ r = some (vI (fLoop M0 T a b d))) := by
  refine cmo [some (vR 53), some (vI a), some (vI b), some (vI d), none, none] ?_
  have h8 := h.g.1
  have h5 := h.t5
  have h53 := h.t53
  refine ev_aload_n dX6_loop_0 rfl ?_
  refine ev_iload_n dX6_loop_1 rfl ?_
  refine em_V1 (d_isTrack l (by omega) (by omega)) mX6_58 dX6_loop_2 lay_53 ?_
  rintro r M ⟨rfl, z2, rfl, h2⟩
  refine ev_if_eq 34 dX6_loop_5 (by omega) (fun c5 => ?_) (fun c5 => ?_)
  · refine ev_ldc (-1000000001) kX6_117 dX6_loop_34 (by decide) ?_
    exact em_iret dX6_loop_36 ⟨h, by unfold fLoop; rw [cif_neg (by omega)]⟩
  · refine ev_aload_n dX6_loop_8 rfl ?_
    refine ev_iload_n dX6_loop_9 rfl ?_
    refine em_V1 (d_isTrack l (by omega) (by omega)) mX6_58 dX6_loop_10 lay_53 ?_
    rintro r M ⟨rfl, z10, rfl, h10⟩
    refine ev_if_eq 34 dX6_loop_13 (by omega) (fun c13 => ?_) (fun c13 => ?_)
    · refine ev_ldc (-1000000001) kX6_117 dX6_loop_34 (by decide) ?_
      exact em_iret dX6_loop_36 ⟨h, by unfold fLoop; rw [cif_neg (by omega)]⟩
    · refine ev_aload_n dX6_loop_16 rfl ?_
      refine ev_iload_n dX6_loop_17 rfl ?_
      refine em_V1 (d_isTrack l (by omega) (by omega)) mX6_58 dX6_loop_18 lay_53 ?_
      rintro r M ⟨rfl, z18, rfl, h18⟩
      refine ev_if_eq 34 dX6_loop_21 (by omega) (fun c21 => ?_) (fun c21 => ?_)
      · refine ev_ldc (-1000000001) kX6_117 dX6_loop_34 (by decide) ?_
        exact em_iret dX6_loop_36 ⟨h, by unfold fLoop; rw [cif_neg (by omega)]⟩
      · refine ev_iload_n dX6_loop_24 rfl ?_
        refine ev_iload_n dX6_loop_25 rfl ?_
        refine ev_icmp_ge 34 dX6_loop_26 (by omega) (by omega) (fun c26 => ?_) (fun c26 => ?_)
        · refine ev_ldc (-1000000001) kX6_117 dX6_loop_34 (by decide) ?_
          exact em_iret dX6_loop_36 ⟨h, by unfold fLoop; rw [cif_neg (by omega)]⟩
        · refine ev_iload_n dX6_loop_29 rfl ?_
          refine ev_iload_n dX6_loop_30 rfl ?_
          refine ev_icmp_lt 37 dX6_loop_31 (by omega) (by omega) (fun c31 => ?_) (fun c31 => ?_)
          · obtain ⟨i, rfl⟩ : ∃ i : Nat, a = (i : Int) := ⟨a.toNat, by omega⟩
            have hi : i < T := by omega
            obtain ⟨j, rfl⟩ : ∃ j : Nat, b = (j : Int) := ⟨b.toNat, by omega⟩
            have hj : j < T := by omega
            obtain ⟨m, rfl⟩ : ∃ m : Nat, d = (m : Int) := ⟨d.toNat, by omega⟩
            have hm : m < T := by omega
            have e1 : (fLoop M0 T (i : Int) (j : Int) (m : Int)) = cif (eD M0 i j ∧ eD M0 j m ∧ eD M0 i m) (wD M0 i j + wD M0 j m - wD M0 i m) (-1000000002) := by unfold fLoop; rw [cif_pos (by omega)]; rfl
            rw [e1]
            refine ev_aload_n dX6_loop_37 rfl ?_
            refine ev_iload_n dX6_loop_38 rfl ?_
            refine ev_iload_n dX6_loop_39 rfl ?_
            refine em_V2 (d_differ l (i := i) (j := j) h.e h.g hi hj) mX6_118 dX6_loop_40 lay_53 ?_
            rintro r M1 ⟨k40, f40, e40, z40, rfl, d40⟩
            have h1 := h.fr (M' := M1) ⟨k40, f40⟩
            refine ev_if_ne 49 dX6_loop_43 (by omega) (fun c43 => ?_) (fun c43 => ?_)
            · refine ev_aload_n dX6_loop_49 rfl ?_
              refine em_getL fX6_114.g dX6_loop_50 lay_53 rfl ?_
              refine ev_lstore dX6_loop_53 (by decide) ?_
              refine ev_ls [some (vR _), some (vI _), some (vI _), some (vI _), some (vL _), none] rfl ?_
              refine ev_aload_n dX6_loop_55 rfl ?_
              refine ev_iload_n dX6_loop_56 rfl ?_
              refine ev_iload_n dX6_loop_57 rfl ?_
              refine em_V2 (d_differ l (i := j) (j := m) h1.e h.g hj hm) mX6_118 dX6_loop_58 lay_53 ?_
              rintro r M2 ⟨k58, f58, e58, z58, rfl, d58⟩
              have h2 := h1.fr (M' := M2) ⟨k58, f58⟩
              refine ev_if_ne 67 dX6_loop_61 (by omega) (fun c61 => ?_) (fun c61 => ?_)
              · refine ev_lload dX6_loop_67 rfl ?_
                refine ev_aload_n dX6_loop_69 rfl ?_
                refine em_getL fX6_114.g dX6_loop_70 lay_53 rfl ?_
                refine ev_ladd dX6_loop_73 ?_
                refine ev_lstore dX6_loop_74 (by decide) ?_
                refine ev_ls [some (vR _), some (vI _), some (vI _), some (vI _), some (vL _), none] rfl ?_
                refine ev_aload_n dX6_loop_76 rfl ?_
                refine ev_iload_n dX6_loop_77 rfl ?_
                refine ev_iload_n dX6_loop_78 rfl ?_
                refine em_V2 (d_differ l (i := i) (j := m) h2.e h.g hi hm) mX6_118 dX6_loop_79 lay_53 ?_
                rintro r M3 ⟨k79, f79, e79, z79, rfl, d79⟩
                have h3 := h2.fr (M' := M3) ⟨k79, f79⟩
                refine ev_if_eq 96 dX6_loop_82 (by omega) (fun c82 => ?_) (fun c82 => ?_)
                · refine ev_ldc (-1000000002) kX6_121 dX6_loop_96 (by decide) ?_
                  exact em_iret dX6_loop_98 ⟨h3, by rcases d40 with q | q <;> rcases d58 with q1 | q1 <;> rcases d79 with q2 | q2 <;> first | (exfalso; omega) | rw [cif_neg (fun q3 => q2.2 q3.2.2)] | rw [cif_pos ⟨q.2.1, q1.2.1, q2.2.1⟩, q.2.2, q1.2.2, q2.2.2]⟩
                · refine ev_lload dX6_loop_85 rfl ?_
                  refine ev_aload_n dX6_loop_87 rfl ?_
                  refine em_getL fX6_114.g dX6_loop_88 lay_53 rfl ?_
                  refine ev_lsub dX6_loop_91 ?_
                  refine ev_l2i dX6_loop_92 ?_
                  refine ev_goto 98 dX6_loop_93 ?_
                  exact em_iret dX6_loop_98 ⟨h3, by rcases d40 with q | q <;> rcases d58 with q1 | q1 <;> rcases d79 with q2 | q2 <;> first | (exfalso; omega) | rw [cif_neg (fun q3 => q2.2 q3.2.2)] | rw [cif_pos ⟨q.2.1, q1.2.1, q2.2.1⟩, q.2.2, q1.2.2, q2.2.2]⟩
              · refine ev_ldc (-1000000002) kX6_121 dX6_loop_64 (by decide) ?_
                exact em_iret dX6_loop_66 ⟨h2, by rcases d58 with q | q; (rw [cif_neg (fun q2 => q.2 q2.2.1)]); (exfalso; omega)⟩
            · refine ev_ldc (-1000000002) kX6_121 dX6_loop_46 (by decide) ?_
              exact em_iret dX6_loop_48 ⟨h1, by rcases d40 with q | q; (rw [cif_neg (fun q2 => q.2 q2.1)]); (exfalso; omega)⟩
          · refine ev_ldc (-1000000001) kX6_117 dX6_loop_34 (by decide) ?_
            exact em_iret dX6_loop_36 ⟨h, by unfold fLoop; rw [cif_neg (by omega)]⟩
set_option maxRecDepth 100000 in
set_option maxHeartbeats 4000000 in
theorem d_off (l : Launch) {M0 M : Mem} {T N : Nat} {c : Nat → Nat} (h : IV M0 T N c M) {a x : Int} (ha : i32 a) (hx : i32 x) : Cm l yX6_off cX6_off 3 (some .long) 5 130 [vR 53, vI a, vI x] M (fun r M' => IV M0 T N c M' ∧ r = some (vL (fOff M0 c T a x))) := by
  refine cmo [some (vR 53), some (vI a), some (vI x)] ?_
  have h8 := h.g.1
  have h5 := h.t5
  have h53 := h.t53
  refine ev_aload_n dX6_off_0 rfl ?_
  refine ev_iload_n dX6_off_1 rfl ?_
  refine em_V1 (d_isTrack l (by omega) (by omega)) mX6_58 dX6_off_2 lay_53 ?_
  rintro r M ⟨rfl, z2, rfl, h2⟩
  refine ev_if_eq 18 dX6_off_5 (by omega) (fun c5 => ?_) (fun c5 => ?_)
  · refine ev_ldc2 (-1000000000000000000) kX6_147 dX6_off_18 (by decide) ?_
    exact em_lret dX6_off_21 ⟨h, by unfold fOff; rw [cif_neg (by omega)]⟩
  · refine ev_iload_n dX6_off_8 rfl ?_
    refine ev_i2l dX6_off_9 (by omega) ?_
    refine ev_lconst0 dX6_off_10 ?_
    refine ev_lconst1 dX6_off_11 ?_
    refine em_S3 (d_in l _ (by omega) (by omega) (by omega)) mX6_44 dX6_off_12 ?_
    rintro r M ⟨rfl, z12, rfl, h12⟩
    refine ev_if_ne 22 dX6_off_15 (by omega) (fun c15 => ?_) (fun c15 => ?_)
    · obtain ⟨t, rfl⟩ : ∃ t : Nat, a = (t : Int) := ⟨a.toNat, by omega⟩
      have ht : t < T := by omega
      refine ev_aload_n dX6_off_22 rfl ?_
      refine em_V0 (d_offs l h.e h.g h53 h.l) mX6_149 dX6_off_23 lay_53 ?_
      rintro r M1 ⟨rfl, hF1, hv1, hO1⟩
      have h1 := h.fo (M' := M1) hF1
      refine ev_aload_n dX6_off_26 rfl ?_
      refine ev_iload_n dX6_off_27 rfl ?_
      refine em_V1 (d_offOf l (t := t) h.g h1.t53 h.l hv1 hO1 ht) mX6_152 dX6_off_28 lay_53 ?_
      rintro r M2 ⟨rfl, k28, f28, i, hi, hit, oa, ob⟩
      have h2 := h1.of (M' := M2) (fun k hk => k28 k (by omega)) (f28 0 (by omega) (by omega)) (f28 4 (by omega) (by omega))
      have ei := ix_uni ht hi hit
      have hb := xN_bd h.g h.l (g := c t) (by omega) (o := 1) (by omega)
      have hn7 := nN_le c (c t) h8
      have hsm := sm_bd (f := xN M0 c (c t) T 1) (c := 8070721400000) (n := nN c (c t) T + 1) (fun q hq => hb.1 q (by unfold nN at hq; omega))
      have hxi := hb.1 i hi
      have hp1 := mbz (x := ((nN c (c t) T + 1 : Nat) : Int)) (z := xN M0 c (c t) T 1 i) (a := 8) (b := 8070721400000) (by omega) (by omega)
      have hp2 := mbz (x := ((nN c (c t) T + 1 : Nat) : Int)) (z := dN M0 c (c t) T 1) (a := 8) (b := 823543) (by omega) (by omega)
      have hp3 : 0 < ((nN c (c t) T + 1 : Nat) : Int) * dN M0 c (c t) T 1 := Int.mul_pos (by omega) (by omega)
      have hob : -9223372036854775808 < M2 53 16 ∧ M2 53 16 < 9223372036854775808 := by rw [oa]; unfold offA; omega
      refine ev_aload_n dX6_off_31 rfl ?_
      refine em_getL fX6_141.g dX6_off_32 lay_53 rfl ?_
      refine ev_aload_n dX6_off_35 rfl ?_
      refine em_getL fX6_144.g dX6_off_36 lay_53 rfl ?_
      refine ev_iload_n dX6_off_39 rfl ?_
      refine em_S3 (d_part l _ hob (by rw [ob]; omega) hx) mX6_101 dX6_off_40 ?_
      rintro r M3 ⟨rfl, rfl⟩
      have hfs := f_scale h.g h.l hi
      unfold fA fB at hfs
      exact em_lret dX6_off_43 ⟨h2, by unfold fOff; rw [cif_pos (by omega), oa, ob]; show _ = some (vL (if x = 0 then oA M0 c T t else oB M0 c T t)); unfold oA oB fA fB; rw [← ei, ← hfs.1, ← hfs.2]; by_cases q : x = 0; (rw [if_pos q, if_pos q]); (rw [if_neg q, if_neg q])⟩
    · refine ev_ldc2 (-1000000000000000000) kX6_147 dX6_off_18 (by decide) ?_
      exact em_lret dX6_off_21 ⟨h, by unfold fOff; rw [cif_neg (by omega)]⟩
