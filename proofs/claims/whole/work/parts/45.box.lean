theorem o_bd {M0 : Mem} {T : Nat} {c : Nat → Nat} (hG : GT M0 T) (hc : Lab (eD M0) T c) {t : Nat} (ht : t < T) : (0 < oB M0 c T t ∧ oB M0 c T t ≤ 6588344) ∧ (-1000000000000000 ≤ oA M0 c T t ∧ oA M0 c T t ≤ 1000000000000000) ∧ (0 < ((nN c (c t) T + 1 : Nat) : Int) * dN M0 c (c t) T 1 ∧ ((nN c (c t) T + 1 : Nat) : Int) * dN M0 c (c t) T 1 ≤ 6588344) ∧ (-1000000000000000 ≤ offA (nN c (c t) T) (xN M0 c (c t) T 1) (ix c T t) ∧ offA (nN c (c t) T) (xN M0 c (c t) T 1) (ix c T t) ≤ 1000000000000000) ∧ offA (nN c (c t) T) (xN M0 c (c t) T 1) (ix c T t) / (((nN c (c t) T + 1 : Nat) : Int) * dN M0 c (c t) T 1) = oA M0 c T t / oB M0 c T t := by
  have hi := (ix_spec (c := c) ht).1
  have hb := xN_bd hG hc (g := c t) (by omega) (o := 1) (by omega)
  have hn7 := nN_le c (c t) hG.1
  have hsm := sm_bd (f := xN M0 c (c t) T 1) (c := 8070721400000) (n := nN c (c t) T + 1) (fun q hq => hb.1 q (by unfold nN at hq; omega))
  have hxi := hb.1 (ix c T t) hi
  have hp1 := mbz (x := ((nN c (c t) T + 1 : Nat) : Int)) (z := xN M0 c (c t) T 1 (ix c T t)) (a := 8) (b := 8070721400000) (by omega) (by omega)
  have hp2 := mbz (x := ((nN c (c t) T + 1 : Nat) : Int)) (z := dN M0 c (c t) T 1) (a := 8) (b := 823543) (by omega) (by omega)
  have hp3 : 0 < ((nN c (c t) T + 1 : Nat) : Int) * dN M0 c (c t) T 1 := Int.mul_pos (by omega) (by omega)
  have hob : -1000000000000000 ≤ offA (nN c (c t) T) (xN M0 c (c t) T 1) (ix c T t) ∧ offA (nN c (c t) T) (xN M0 c (c t) T 1) (ix c T t) ≤ 1000000000000000 := by unfold offA; omega
  have hfs := f_scale hG hc hi
  have ea : oA M0 c T t = fA M0 c (c t) T 1 (ix c T t) := hfs.1.symm
  have eb : oB M0 c T t = fB M0 c (c t) T 1 (ix c T t) := hfs.2.symm
  rw [ea, eb]
  unfold fA fB
  generalize offA (nN c (c t) T) (xN M0 c (c t) T 1) (ix c T t) = O at *
  generalize ((nN c (c t) T + 1 : Nat) : Int) * dN M0 c (c t) T 1 = D at *
  obtain ⟨g, g1, g2, g3, g4⟩ := red_eq (a := O) hp3
  rw [g2]
  generalize O.tdiv g = x at *
  generalize D.tdiv g = y at *
  have hy : 0 < y := by
    rcases Int.lt_or_le 0 y with q | q
    · exact q
    · exfalso
      have := Int.mul_nonneg (show 0 ≤ g by omega) (show 0 ≤ -y by omega)
      have e : g * -y = -(g * y) := by grind
      omega
  have hy2 : y ≤ D := by
    have := Int.mul_nonneg (show 0 ≤ g - 1 by omega) (show 0 ≤ y by omega)
    have e : (g - 1) * y = g * y - y := by grind
    omega
  have hx : x ≤ 1000000000000000 := by
    rcases Int.lt_or_le 0 x with q | q
    · have := Int.mul_nonneg (show 0 ≤ g - 1 by omega) (show 0 ≤ x by omega)
      have e : (g - 1) * x = g * x - x := by grind
      omega
    · omega
  have hx2 : -1000000000000000 ≤ x := by
    rcases Int.lt_or_le 0 (-x) with q | q
    · have := Int.mul_nonneg (show 0 ≤ g - 1 by omega) (show 0 ≤ -x by omega)
      have e : (g - 1) * -x = -(g * x) + x := by grind
      omega
    · omega
  refine ⟨⟨hy, by omega⟩, ⟨hx2, hx⟩, ⟨hp3, by omega⟩, hob, fl_eq hp3 hy ?_⟩
  rw [g3, g4]; grind
def bxN (M0 : Mem) (w i j : Int) (t : Nat) : Int := if M0 (2 + 2 * t) 6 = 0 then cntB (M0 (2 + 2 * t)) (M0 (2 + 2 * t + 1)) w i j 9 else 0
noncomputable def bxS (M0 : Mem) (c : Nat → Nat) (T : Nat) (w i j : Int) (t : Nat) : Int := if M0 (2 + 2 * t) 6 = 0 then 10 * sumB (M0 (2 + 2 * t)) (M0 (2 + 2 * t + 1)) w i j 9 - cntB (M0 (2 + 2 * t)) (M0 (2 + 2 * t + 1)) w i j 9 * (oA M0 c T t / oB M0 c T t) else 0
noncomputable def fBox (M0 : Mem) (c : Nat → Nat) (T : Nat) (w i j x : Int) : Int := cif ((1 ≤ w ∧ w ≤ 50) ∧ (-100 ≤ i ∧ i ≤ 100) ∧ (-100 ≤ j ∧ j ≤ 100) ∧ (0 ≤ x ∧ x ≤ 1)) (if x = 0 then sm T (bxN M0 w i j) else sm T (bxS M0 c T w i j)) (-1000000000000000000)
set_option maxRecDepth 100000 in
set_option maxHeartbeats 4000000 in
theorem c_box (l : Launch) {M0 M : Mem} {T N : Nat} {c : Nat → Nat} (h : IV M0 T N c M) {w i j x : Int} (hw : i32 w) (hi : i32 i) (hj : i32 j) (hx : i32 x) : Cm l yX5_box cX5_box 13 (some .long) 6 153 [vR 0, vI w, vI i, vI j, vI x] M (fun r M' => IV M0 T N c M' ∧ r = some (vL (fBox M0 c T w i j x))) := by
  refine cmo [some (vR 0), some (vI w), some (vI i), some (vI j), some (vI x), none, none, none, none, none, none, none, none] ?_
  have h8 := h.g.1
  have h5 := h.t5
  have h53 := h.t53
  refine ev_iload_n dX5_box_0 rfl ?_
  refine ev_iconst dX5_box_1 ?_
  refine ev_bipush dX5_box_2 (by decide) ?_
  refine em_S3 (c_isWithin l _ (by omega) (by omega) (by omega)) mX5_57 dX5_box_4 ?_
  rintro r M ⟨rfl, z4, rfl, h4⟩
  refine ev_if_eq 36 dX5_box_7 (by omega) (fun c7 => ?_) (fun c7 => ?_)
  · refine ev_iconst dX5_box_36 ?_
    refine ev_istore dX5_box_37 (by decide) ?_
    refine ev_ls [some (vR _), some (vI _), some (vI _), some (vI _), some (vI _), some (vI _), none, none, none, none, none, none, none] rfl ?_
    refine ev_iload dX5_box_39 rfl ?_
    refine ev_if_eq 54 dX5_box_41 (by omega) (fun c41 => ?_) (fun c41 => ?_)
    · refine ev_ldc2 (-1000000000000000000) kX5_102 dX5_box_54 (by decide) ?_
      exact em_lret dX5_box_57 ⟨h, by unfold fBox; rw [cif_neg (by omega)]⟩
    · refine ev_iload dX5_box_44 rfl ?_
      refine ev_iconst dX5_box_46 ?_
      refine ev_iconst dX5_box_47 ?_
      refine em_S3 (c_isWithin l _ (by omega) (by omega) (by omega)) mX5_57 dX5_box_48 ?_
      rintro r M ⟨rfl, z48, rfl, h48⟩
      refine ev_if_ne 58 dX5_box_51 (by omega) (fun c51 => ?_) (fun c51 => ?_)
      · exfalso; omega
      · refine ev_ldc2 (-1000000000000000000) kX5_102 dX5_box_54 (by decide) ?_
        exact em_lret dX5_box_57 ⟨h, by unfold fBox; rw [cif_neg (by omega)]⟩
  · refine ev_iload_n dX5_box_10 rfl ?_
    refine ev_bipush dX5_box_11 (by decide) ?_
    refine ev_bipush dX5_box_13 (by decide) ?_
    refine em_S3 (c_isWithin l _ (by omega) (by omega) (by omega)) mX5_57 dX5_box_15 ?_
    rintro r M ⟨rfl, z15, rfl, h15⟩
    refine ev_if_eq 36 dX5_box_18 (by omega) (fun c18 => ?_) (fun c18 => ?_)
    · refine ev_iconst dX5_box_36 ?_
      refine ev_istore dX5_box_37 (by decide) ?_
      refine ev_ls [some (vR _), some (vI _), some (vI _), some (vI _), some (vI _), some (vI _), none, none, none, none, none, none, none] rfl ?_
      refine ev_iload dX5_box_39 rfl ?_
      refine ev_if_eq 54 dX5_box_41 (by omega) (fun c41 => ?_) (fun c41 => ?_)
      · refine ev_ldc2 (-1000000000000000000) kX5_102 dX5_box_54 (by decide) ?_
        exact em_lret dX5_box_57 ⟨h, by unfold fBox; rw [cif_neg (by omega)]⟩
      · refine ev_iload dX5_box_44 rfl ?_
        refine ev_iconst dX5_box_46 ?_
        refine ev_iconst dX5_box_47 ?_
        refine em_S3 (c_isWithin l _ (by omega) (by omega) (by omega)) mX5_57 dX5_box_48 ?_
        rintro r M ⟨rfl, z48, rfl, h48⟩
        refine ev_if_ne 58 dX5_box_51 (by omega) (fun c51 => ?_) (fun c51 => ?_)
        · exfalso; omega
        · refine ev_ldc2 (-1000000000000000000) kX5_102 dX5_box_54 (by decide) ?_
          exact em_lret dX5_box_57 ⟨h, by unfold fBox; rw [cif_neg (by omega)]⟩
    · refine ev_iload_n dX5_box_21 rfl ?_
      refine ev_bipush dX5_box_22 (by decide) ?_
      refine ev_bipush dX5_box_24 (by decide) ?_
      refine em_S3 (c_isWithin l _ (by omega) (by omega) (by omega)) mX5_57 dX5_box_26 ?_
      rintro r M ⟨rfl, z26, rfl, h26⟩
      refine ev_if_eq 36 dX5_box_29 (by omega) (fun c29 => ?_) (fun c29 => ?_)
      · refine ev_iconst dX5_box_36 ?_
        refine ev_istore dX5_box_37 (by decide) ?_
        refine ev_ls [some (vR _), some (vI _), some (vI _), some (vI _), some (vI _), some (vI _), none, none, none, none, none, none, none] rfl ?_
        refine ev_iload dX5_box_39 rfl ?_
        refine ev_if_eq 54 dX5_box_41 (by omega) (fun c41 => ?_) (fun c41 => ?_)
        · refine ev_ldc2 (-1000000000000000000) kX5_102 dX5_box_54 (by decide) ?_
          exact em_lret dX5_box_57 ⟨h, by unfold fBox; rw [cif_neg (by omega)]⟩
        · refine ev_iload dX5_box_44 rfl ?_
          refine ev_iconst dX5_box_46 ?_
          refine ev_iconst dX5_box_47 ?_
          refine em_S3 (c_isWithin l _ (by omega) (by omega) (by omega)) mX5_57 dX5_box_48 ?_
          rintro r M ⟨rfl, z48, rfl, h48⟩
          refine ev_if_ne 58 dX5_box_51 (by omega) (fun c51 => ?_) (fun c51 => ?_)
          · exfalso; omega
          · refine ev_ldc2 (-1000000000000000000) kX5_102 dX5_box_54 (by decide) ?_
            exact em_lret dX5_box_57 ⟨h, by unfold fBox; rw [cif_neg (by omega)]⟩
      · refine ev_iconst dX5_box_32 ?_
        refine ev_goto 37 dX5_box_33 ?_
        refine ev_istore dX5_box_37 (by decide) ?_
        refine ev_ls [some (vR _), some (vI _), some (vI _), some (vI _), some (vI _), some (vI _), none, none, none, none, none, none, none] rfl ?_
        refine ev_iload dX5_box_39 rfl ?_
        refine ev_if_eq 54 dX5_box_41 (by omega) (fun c41 => ?_) (fun c41 => ?_)
        · refine ev_ldc2 (-1000000000000000000) kX5_102 dX5_box_54 (by decide) ?_
          exact em_lret dX5_box_57 ⟨h, by unfold fBox; rw [cif_neg (by omega)]⟩
        · refine ev_iload dX5_box_44 rfl ?_
          refine ev_iconst dX5_box_46 ?_
          refine ev_iconst dX5_box_47 ?_
          refine em_S3 (c_isWithin l _ (by omega) (by omega) (by omega)) mX5_57 dX5_box_48 ?_
          rintro r M ⟨rfl, z48, rfl, h48⟩
          refine ev_if_ne 58 dX5_box_51 (by omega) (fun c51 => ?_) (fun c51 => ?_)
          · have hval : (1 ≤ w ∧ w ≤ 50) ∧ (-100 ≤ i ∧ i ≤ 100) ∧ (-100 ≤ j ∧ j ≤ 100) ∧ (0 ≤ x ∧ x ≤ 1) := by omega
            refine ev_aload_n dX5_box_58 rfl ?_
            refine em_V0 (c_bring l h) mX5_121 dX5_box_59 lay_0 ?_
            rintro r M1 ⟨rfl, h1, hs1, ho1⟩
            have t5 := h1.t5
            refine ev_lconst0 dX5_box_62 ?_
            refine ev_lstore dX5_box_63 (by decide) ?_
            refine ev_ls [some (vR _), some (vI _), some (vI _), some (vI _), some (vI _), some (vI _), some (vL _), none, none, none, none, none, none] rfl ?_
            refine ev_lconst0 dX5_box_65 ?_
            refine ev_lstore dX5_box_66 (by decide) ?_
            refine ev_ls [some (vR _), some (vI _), some (vI _), some (vI _), some (vI _), some (vI _), some (vL _), none, some (vL _), none, none, none, none] rfl ?_
            refine ev_iconst dX5_box_68 ?_
            refine ev_istore dX5_box_69 (by decide) ?_
            refine ev_ls [some (vR _), some (vI _), some (vI _), some (vI _), some (vI _), some (vI _), some (vL _), none, some (vL _), none, some (vI _), none, none] rfl ?_
            have lp : ∀ (n : Nat) (t : Nat), T < t + n → t ≤ T → Em l yX5_box cX5_box 13 (some .long) 6 153 (fun r M' => IV M0 T N c M' ∧ r = some (vL (fBox M0 c T w i j x))) 71 [some (vR 0), some (vI w), some (vI i), some (vI j), some (vI x), some (vI 1), some (vL (sm t (bxN M0 w i j))), none, some (vL (sm t (bxS M0 c T w i j))), none, some (vI (t : Int)), none, none] [] M1 := by
              intro n
              induction n with
              | zero => intro t u1 u2; omega
              | succ n ihlp =>
                intro t u1 u2
                refine ev_iload dX5_box_71 rfl ?_
                refine ev_aload_n dX5_box_73 rfl ?_
                refine em_getI fX5_44.g dX5_box_74 lay_0 rfl ?_
                refine ev_icmp_ge 161 dX5_box_77 (by omega) (by omega) (fun c1 => ?_) (fun c1 => ?_)
                · have et : t = T := by omega
                  subst et
                  refine ev_iload dX5_box_161 rfl ?_
                  refine ev_if_ne 171 dX5_box_163 (by omega) (fun c163 => ?_) (fun c163 => ?_)
                  · refine ev_lload dX5_box_171 rfl ?_
                    exact em_lret dX5_box_173 ⟨h1, by unfold fBox; rw [cif_pos (by omega)]; first | rw [if_pos (show x = 0 by omega)] | rw [if_neg (show ¬ x = 0 by omega)]⟩
                  · refine ev_lload dX5_box_166 rfl ?_
                    refine ev_goto 173 dX5_box_168 ?_
                    exact em_lret dX5_box_173 ⟨h1, by unfold fBox; rw [cif_pos (by omega)]; first | rw [if_pos (show x = 0 by omega)] | rw [if_neg (show ¬ x = 0 by omega)]⟩
                · have ht : t < T := by omega
                  have hT := (h.g.2 t ht).1
                  have e1 := h1.e.1 (2 + 2 * t) (by omega) (by omega)
                  have e2 := h1.e.1 (2 + 2 * t + 1) (by omega) (by omega)
                  have hho := hT.2.2.2.2.2.2.1
                  have hTT := h1.e.tr (show t < 8 by omega) hT
                  have hob := o_bd h.g h.l ht
                  have hoo := ho1.at h.l ht
                  have hcb := cntB_bd (M0 (2 + 2 * t)) (M0 (2 + 2 * t + 1)) w i j 9
                  refine ev_aload_n dX5_box_80 rfl ?_
                  refine em_getR fX5_11.g dX5_box_81 lay_0 rfl ?_
                  refine ev_iload dX5_box_84 rfl ?_
                  refine en_trk t dX5_box_86 (by omega) (by omega) ?_
                  refine em_getI fX5_77.g dX5_box_87 (lay_trk (i := t) (by omega)) rfl ?_
                  rw [e1]
                  refine ev_if_ne 155 dX5_box_90 (by omega) (fun c90 => ?_) (fun c90 => ?_)
                  · refine ev_iinc dX5_box_155 rfl (by decide) ?_
                    refine ev_ls [some (vR _), some (vI _), some (vI _), some (vI _), some (vI _), some (vI _), some (vL _), none, some (vL _), none, some (vI _), none, none] rfl ?_
                    refine ev_goto 71 dX5_box_158 ?_
                    have hst := ihlp (t + 1) (by omega) (by omega)
                    rw [show sm (t + 1) (bxN M0 w i j) = sm t (bxN M0 w i j) + bxN M0 w i j t from rfl, show sm (t + 1) (bxS M0 c T w i j) = sm t (bxS M0 c T w i j) + bxS M0 c T w i j t from rfl] at hst
                    unfold bxN bxS at hst ⊢
                    first | (rw [if_pos (by omega), if_pos (by omega)] at hst; refine ev_mask [true, true, true, true, true, true, true, true, true, true, true, false, false] ?_; exact hst) | (rw [if_neg (by omega), if_neg (by omega), Int.add_zero, Int.add_zero] at hst; exact hst)
                  · refine ev_aload_n dX5_box_93 rfl ?_
                    refine em_getR fX5_11.g dX5_box_94 lay_0 rfl ?_
                    refine ev_iload dX5_box_97 rfl ?_
                    refine en_trk t dX5_box_99 (by omega) (by omega) ?_
                    refine ev_iload_n dX5_box_100 rfl ?_
                    refine ev_iload_n dX5_box_101 rfl ?_
                    refine ev_iload_n dX5_box_102 rfl ?_
                    refine em_V3 (c_readingsIn l (i := t) (by omega) hTT (by omega) (by omega) (by omega)) mX5_169 dX5_box_103 (lay_trk (i := t) (by omega)) ?_
                    rintro r M1 ⟨rfl, rfl⟩
                    rw [e1, e2]
                    refine ev_i2l dX5_box_106 (by omega) ?_
                    refine ev_lstore dX5_box_107 (by decide) ?_
                    refine ev_ls [some (vR _), some (vI _), some (vI _), some (vI _), some (vI _), some (vI _), some (vL _), none, some (vL _), none, some (vI _), some (vL _), none] rfl ?_
                    refine ev_lload dX5_box_109 rfl ?_
                    refine ev_lload dX5_box_111 rfl ?_
                    refine ev_ladd dX5_box_113 ?_
                    refine ev_lstore dX5_box_114 (by decide) ?_
                    refine ev_ls [some (vR _), some (vI _), some (vI _), some (vI _), some (vI _), some (vI _), some (vL _), none, some (vL _), none, some (vI _), some (vL _), none] rfl ?_
                    refine ev_lload dX5_box_116 rfl ?_
                    refine ev_ldc2 (10) kX5_173 dX5_box_118 (by decide) ?_
                    refine ev_aload_n dX5_box_121 rfl ?_
                    refine em_getR fX5_11.g dX5_box_122 lay_0 rfl ?_
                    refine ev_iload dX5_box_125 rfl ?_
                    refine en_trk t dX5_box_127 (by omega) (by omega) ?_
                    refine ev_iload_n dX5_box_128 rfl ?_
                    refine ev_iload_n dX5_box_129 rfl ?_
                    refine ev_iload_n dX5_box_130 rfl ?_
                    refine em_V3 (c_heightsIn l (i := t) (by omega) hTT (by omega) (by omega) (by omega)) mX5_175 dX5_box_131 (lay_trk (i := t) (by omega)) ?_
                    rintro r M1 ⟨rfl, rfl⟩
                    rw [e1, e2]
                    refine ev_lmul dX5_box_134 ?_
                    refine ev_lload dX5_box_135 rfl ?_
                    refine ev_aload_n dX5_box_137 rfl ?_
                    refine em_getR fX5_26.g dX5_box_138 lay_0 rfl ?_
                    refine em_getR fX5_133 dX5_box_141 lay_19 rfl ?_
                    refine ev_iload dX5_box_144 rfl ?_
                    refine en_frc t dX5_box_146 (by omega) (by omega) ?_
                    refine em_V0 (c_roundedDown l (r := 21 + t) (by omega) (lay_frc (i := t) (by omega)) (by omega) (by omega)) mX5_179 dX5_box_147 (lay_frc (i := t) (by omega)) ?_
                    rintro r M1 ⟨rfl, rfl⟩
                    rw [hoo.1, hoo.2]
                    refine ev_lmul dX5_box_150 ?_
                    refine ev_lsub dX5_box_151 ?_
                    refine ev_ladd dX5_box_152 ?_
                    refine ev_lstore dX5_box_153 (by decide) ?_
                    refine ev_ls [some (vR _), some (vI _), some (vI _), some (vI _), some (vI _), some (vI _), some (vL _), none, some (vL _), none, some (vI _), some (vL _), none] rfl ?_
                    refine ev_iinc dX5_box_155 rfl (by decide) ?_
                    refine ev_ls [some (vR _), some (vI _), some (vI _), some (vI _), some (vI _), some (vI _), some (vL _), none, some (vL _), none, some (vI _), some (vL _), none] rfl ?_
                    refine ev_goto 71 dX5_box_158 ?_
                    have hst := ihlp (t + 1) (by omega) (by omega)
                    rw [show sm (t + 1) (bxN M0 w i j) = sm t (bxN M0 w i j) + bxN M0 w i j t from rfl, show sm (t + 1) (bxS M0 c T w i j) = sm t (bxS M0 c T w i j) + bxS M0 c T w i j t from rfl] at hst
                    unfold bxN bxS at hst ⊢
                    first | (rw [if_pos (by omega), if_pos (by omega)] at hst; refine ev_mask [true, true, true, true, true, true, true, true, true, true, true, false, false] ?_; exact hst) | (rw [if_neg (by omega), if_neg (by omega), Int.add_zero, Int.add_zero] at hst; exact hst)
            exact lp (T + 1) 0 (by omega) (by omega)
          · refine ev_ldc2 (-1000000000000000000) kX5_102 dX5_box_54 (by decide) ?_
            exact em_lret dX5_box_57 ⟨h, by unfold fBox; rw [cif_neg (by omega)]⟩
set_option maxRecDepth 100000 in
set_option maxHeartbeats 4000000 in
theorem d_box (l : Launch) {M0 M : Mem} {T N : Nat} {c : Nat → Nat} (h : IV M0 T N c M) {w i j x : Int} (hw : i32 w) (hi : i32 i) (hj : i32 j) (hx : i32 x) : Cm l yX6_box cX6_box 15 (some .long) 5 130 [vR 53, vI w, vI i, vI j, vI x] M (fun r M' => IV M0 T N c M' ∧ r = some (vL (fBox M0 c T w i j x))) := by
  refine cmo [some (vR 53), some (vI w), some (vI i), some (vI j), some (vI x), none, none, none, none, none, none, none, none, none, none] ?_
  have h8 := h.g.1
  have h5 := h.t5
  have h53 := h.t53
  refine ev_iload_n dX6_box_0 rfl ?_
  refine ev_i2l dX6_box_1 (by omega) ?_
  refine ev_lconst1 dX6_box_2 ?_
  refine ev_ldc2 (50) kX6_176 dX6_box_3 (by decide) ?_
  refine em_S3 (d_in l _ (by omega) (by omega) (by omega)) mX6_44 dX6_box_6 ?_
  rintro r M ⟨rfl, z6, rfl, h6⟩
  refine ev_if_eq 51 dX6_box_9 (by omega) (fun c9 => ?_) (fun c9 => ?_)
  · refine ev_ldc2 (-1000000000000000000) kX6_147 dX6_box_51 (by decide) ?_
    exact em_lret dX6_box_54 ⟨h, by unfold fBox; rw [cif_neg (by omega)]⟩
  · refine ev_iload_n dX6_box_12 rfl ?_
    refine ev_i2l dX6_box_13 (by omega) ?_
    refine ev_ldc2 (-100) kX6_48 dX6_box_14 (by decide) ?_
    refine ev_ldc2 (100) kX6_50 dX6_box_17 (by decide) ?_
    refine em_S3 (d_in l _ (by omega) (by omega) (by omega)) mX6_44 dX6_box_20 ?_
    rintro r M ⟨rfl, z20, rfl, h20⟩
    refine ev_if_eq 51 dX6_box_23 (by omega) (fun c23 => ?_) (fun c23 => ?_)
    · refine ev_ldc2 (-1000000000000000000) kX6_147 dX6_box_51 (by decide) ?_
      exact em_lret dX6_box_54 ⟨h, by unfold fBox; rw [cif_neg (by omega)]⟩
    · refine ev_iload_n dX6_box_26 rfl ?_
      refine ev_i2l dX6_box_27 (by omega) ?_
      refine ev_ldc2 (-100) kX6_48 dX6_box_28 (by decide) ?_
      refine ev_ldc2 (100) kX6_50 dX6_box_31 (by decide) ?_
      refine em_S3 (d_in l _ (by omega) (by omega) (by omega)) mX6_44 dX6_box_34 ?_
      rintro r M ⟨rfl, z34, rfl, h34⟩
      refine ev_if_eq 51 dX6_box_37 (by omega) (fun c37 => ?_) (fun c37 => ?_)
      · refine ev_ldc2 (-1000000000000000000) kX6_147 dX6_box_51 (by decide) ?_
        exact em_lret dX6_box_54 ⟨h, by unfold fBox; rw [cif_neg (by omega)]⟩
      · refine ev_iload dX6_box_40 rfl ?_
        refine ev_i2l dX6_box_42 (by omega) ?_
        refine ev_lconst0 dX6_box_43 ?_
        refine ev_lconst1 dX6_box_44 ?_
        refine em_S3 (d_in l _ (by omega) (by omega) (by omega)) mX6_44 dX6_box_45 ?_
        rintro r M ⟨rfl, z45, rfl, h45⟩
        refine ev_if_ne 55 dX6_box_48 (by omega) (fun c48 => ?_) (fun c48 => ?_)
        · have hval : (1 ≤ w ∧ w ≤ 50) ∧ (-100 ≤ i ∧ i ≤ 100) ∧ (-100 ≤ j ∧ j ≤ 100) ∧ (0 ≤ x ∧ x ≤ 1) := by omega
          refine ev_aload_n dX6_box_55 rfl ?_
          refine em_V0 (d_offs l h.e h.g h53 h.l) mX6_149 dX6_box_56 lay_53 ?_
          rintro r M1 ⟨rfl, hF1, hv1, hO1⟩
          have h1 := h.fo (M' := M1) hF1
          refine ev_lconst0 dX6_box_59 ?_
          refine ev_lstore dX6_box_60 (by decide) ?_
          refine ev_ls [some (vR _), some (vI _), some (vI _), some (vI _), some (vI _), some (vL _), none, none, none, none, none, none, none, none, none] rfl ?_
          refine ev_lconst0 dX6_box_62 ?_
          refine ev_lstore dX6_box_63 (by decide) ?_
          refine ev_ls [some (vR _), some (vI _), some (vI _), some (vI _), some (vI _), some (vL _), none, some (vL _), none, none, none, none, none, none, none] rfl ?_
          refine ev_iconst dX6_box_65 ?_
          refine ev_istore dX6_box_66 (by decide) ?_
          refine ev_ls [some (vR _), some (vI _), some (vI _), some (vI _), some (vI _), some (vL _), none, some (vL _), none, some (vI _), none, none, none, none, none] rfl ?_
          have lp : ∀ (n : Nat) (t : Nat) (Mm : Mem), T < t + n → t ≤ T → IV M0 T N c Mm → (∀ q, q < T → Mm 58 q = (c q : Int)) → OM M0 Mm c T T → Em l yX6_box cX6_box 15 (some .long) 5 130 (fun r M' => IV M0 T N c M' ∧ r = some (vL (fBox M0 c T w i j x))) 68 [some (vR 53), some (vI w), some (vI i), some (vI j), some (vI x), some (vL (sm t (bxN M0 w i j))), none, some (vL (sm t (bxS M0 c T w i j))), none, some (vI (t : Int)), none, none, none, none, none] [] Mm := by
            intro n
            induction n with
            | zero => intro t Mm u1 u2 hI hvm hOm; omega
            | succ n ihlp =>
              intro t Mm u1 u2 hI hvm hOm
              have t53 := hI.t53
              refine ev_iload dX6_box_68 rfl ?_
              refine ev_aload_n dX6_box_70 rfl ?_
              refine em_getI fX6_40.g dX6_box_71 lay_53 rfl ?_
              refine ev_icmp_ge 304 dX6_box_74 (by omega) (by omega) (fun c1 => ?_) (fun c1 => ?_)
              · have et : t = T := by omega
                subst et
                refine ev_iload dX6_box_304 rfl ?_
                refine ev_if_ne 314 dX6_box_306 (by omega) (fun c306 => ?_) (fun c306 => ?_)
                · refine ev_lload dX6_box_314 rfl ?_
                  exact em_lret dX6_box_316 ⟨hI, by unfold fBox; rw [cif_pos (by omega)]; first | rw [if_pos (show x = 0 by omega)] | rw [if_neg (show ¬ x = 0 by omega)]⟩
                · refine ev_lload dX6_box_309 rfl ?_
                  refine ev_goto 316 dX6_box_311 ?_
                  exact em_lret dX6_box_316 ⟨hI, by unfold fBox; rw [cif_pos (by omega)]; first | rw [if_pos (show x = 0 by omega)] | rw [if_neg (show ¬ x = 0 by omega)]⟩
              · have ht : t < T := by omega
                have hT := (h.g.2 t ht).1
                have hL := (h.g.2 t ht).2
                have hho := hT.2.2.2.2.2.2.1
                have hob := o_bd h.g h.l ht
                refine ev_aload_n dX6_box_77 rfl ?_
                refine ev_iload dX6_box_78 rfl ?_
                refine em_V1 (d_offOf l (t := t) h.g hI.t53 h.l hvm hOm ht) mX6_152 dX6_box_80 lay_53 ?_
                rintro r M2 ⟨rfl, k28, f28, ii, hii, hit, oa, ob⟩
                have h2 := hI.of (M' := M2) (fun k hk => k28 k (by omega)) (f28 0 (by omega) (by omega)) (f28 4 (by omega) (by omega))
                have ei := ix_uni ht hii hit
                subst ei
                have e54 : M2 54 = M0 54 := h2.e.2.1
                have e55 : M2 55 = M0 55 := h2.e.2.2.1
                have e56 : M2 56 = M0 56 := h2.e.2.2.2
                obtain ⟨l0, l1, l2, l3, l4, l5, l6, l7⟩ := id hL
                obtain ⟨t0, t1, t2, t3, t4, t5, t6, t7⟩ := id hT
                have hv2 : ∀ q, q < T → M2 58 q = (c q : Int) := fun q hq => by rw [k28 58 (by omega)]; exact hvm q hq
                have hO2 : OM M0 M2 c T T := fun g hg hcg q hq => by rw [k28 61 (by omega), k28 62 (by omega)]; exact hOm g hg hcg q hq
                have hnext := ihlp (t + 1) M2 (by omega) (by omega) h2 hv2 hO2
                rw [show sm (t + 1) (bxN M0 w i j) = sm t (bxN M0 w i j) + bxN M0 w i j t from rfl, show sm (t + 1) (bxS M0 c T w i j) = sm t (bxS M0 c T w i j) + bxS M0 c T w i j t from rfl] at hnext
                by_cases hout : M0 (2 + 2 * t) 6 = 0
                · unfold bxN bxS at hnext
                  rw [if_pos hout, if_pos hout] at hnext
                  refine ev_iconst dX6_box_83 ?_
                  refine ev_istore dX6_box_84 (by decide) ?_
                  refine ev_ls [some (vR _), some (vI _), some (vI _), some (vI _), some (vI _), some (vL _), none, some (vL _), none, some (vI _), some (vI _), none, none, none, none] rfl ?_
                  have inner : ∀ (m : Nat) (k : Nat), 9 < k + m → k ≤ 9 → Em l yX6_box cX6_box 15 (some .long) 5 130 (fun r M' => IV M0 T N c M' ∧ r = some (vL (fBox M0 c T w i j x))) 86 [some (vR 53), some (vI w), some (vI i), some (vI j), some (vI x), some (vL (sm t (bxN M0 w i j) + (cntB (M0 (2 + 2 * t)) (M0 (2 + 2 * t + 1)) w i j k))), none, some (vL (sm t (bxS M0 c T w i j) + (10 * sumB (M0 (2 + 2 * t)) (M0 (2 + 2 * t + 1)) w i j k - cntB (M0 (2 + 2 * t)) (M0 (2 + 2 * t + 1)) w i j k * (oA M0 c T t / oB M0 c T t)))), none, some (vI (t : Int)), some (vI (k : Int)), none, none, none, none] [] M2 := by
                    intro m
                    induction m with
                    | zero => intro k u3 u4; omega
                    | succ m ihinner =>
                      intro k u3 u4
                      refine ev_iload dX6_box_86 rfl ?_
                      refine ev_bipush dX6_box_88 (by decide) ?_
                      refine ev_icmp_ge 298 dX6_box_90 (by omega) (by omega) (fun c2 => ?_) (fun c2 => ?_)
                      · have ek : k = 9 := by omega
                        subst ek
                        refine ev_iinc dX6_box_298 rfl (by decide) ?_
                        refine ev_ls [some (vR _), some (vI _), some (vI _), some (vI _), some (vI _), some (vL _), none, some (vL _), none, some (vI _), some (vI _), none, none, none, none] rfl ?_
                        refine ev_goto 68 dX6_box_301 ?_
                        refine ev_mask [true, true, true, true, true, true, false, true, false, true, false, false, false, false, false] ?_
                        exact hnext
                      · have hhk := t7 k (by omega)
                        have l7k := l7 k (by omega)
                        have p0 := mb (x := (M0 (2 + 2 * t)) 3) (z := (k : Int)) 200 8 (by omega) (by omega)
                        have p1 := mb (x := (M0 (2 + 2 * t)) 4) (z := (k : Int)) 200 8 (by omega) (by omega)
                        have q0 := ed_bd (a := 8 * (M0 (2 + 2 * t)) 0 + (M0 (2 + 2 * t)) 3 * (k : Int)) (b := 8 * w) (c := 3000) (by omega) (by omega) (by omega)
                        have q1 := ed_bd (a := 8 * (M0 (2 + 2 * t)) 1 + (M0 (2 + 2 * t)) 4 * (k : Int)) (b := 8 * w) (c := 3000) (by omega) (by omega) (by omega)
                        have hin := ihinner (k + 1) (by omega) (by omega)
                        rw [show cntB (M0 (2 + 2 * t)) (M0 (2 + 2 * t + 1)) w i j (k + 1) = cntB (M0 (2 + 2 * t)) (M0 (2 + 2 * t + 1)) w i j k + (if inB (M0 (2 + 2 * t)) (M0 (2 + 2 * t + 1)) w i j k then 1 else 0) from rfl, show sumB (M0 (2 + 2 * t)) (M0 (2 + 2 * t + 1)) w i j (k + 1) = sumB (M0 (2 + 2 * t)) (M0 (2 + 2 * t + 1)) w i j k + (if inB (M0 (2 + 2 * t)) (M0 (2 + 2 * t + 1)) w i j k then (M0 (2 + 2 * t + 1)) k else 0) from rfl] at hin
                        refine ev_aload_n dX6_box_93 rfl ?_
                        refine em_getR fX6_16.g dX6_box_94 lay_53 rfl ?_
                        refine ev_iload dX6_box_97 rfl ?_
                        refine en_zald t dX6_box_99 lay_56 (by omega) (by omega) ?_
                        rw [e56]
                        refine ev_if_ne 298 dX6_box_100 (by omega) (fun c100 => ?_) (fun c100 => ?_)
                        · omega
                        · refine ev_ldc2 (8) kX6_62 dX6_box_103 (by decide) ?_
                          refine ev_aload_n dX6_box_106 rfl ?_
                          refine em_getR fX6_7.g dX6_box_107 lay_53 rfl ?_
                          refine ev_bipush dX6_box_110 (by decide) ?_
                          refine ev_iload dX6_box_112 rfl ?_
                          refine ev_imul dX6_box_114 ?_
                          refine en_iald (6 * t) dX6_box_115 lay_54 (by omega) (by omega) ?_
                          rw [e54, l0]
                          refine ev_i2l dX6_box_116 (by omega) ?_
                          refine ev_lmul dX6_box_117 ?_
                          refine ev_iload dX6_box_118 rfl ?_
                          refine ev_i2l dX6_box_120 (by omega) ?_
                          refine ev_aload_n dX6_box_121 rfl ?_
                          refine em_getR fX6_7.g dX6_box_122 lay_53 rfl ?_
                          refine ev_bipush dX6_box_125 (by decide) ?_
                          refine ev_iload dX6_box_127 rfl ?_
                          refine ev_imul dX6_box_129 ?_
                          refine ev_iconst dX6_box_130 ?_
                          refine ev_iadd dX6_box_131 ?_
                          refine en_iald ((6 * t) + 2) dX6_box_132 lay_54 (by omega) (by omega) ?_
                          refine ev_aload_n dX6_box_133 rfl ?_
                          refine em_getR fX6_7.g dX6_box_134 lay_53 rfl ?_
                          refine ev_bipush dX6_box_137 (by decide) ?_
                          refine ev_iload dX6_box_139 rfl ?_
                          refine ev_imul dX6_box_141 ?_
                          refine en_iald (6 * t) dX6_box_142 lay_54 (by omega) (by omega) ?_
                          refine ev_isub dX6_box_143 ?_
                          rw [e54, l0, l2, show (M0 (2 + 2 * t)) 0 + (M0 (2 + 2 * t)) 3 - (M0 (2 + 2 * t)) 0 = (M0 (2 + 2 * t)) 3 by omega]
                          refine ev_i2l dX6_box_144 (by omega) ?_
                          refine ev_lmul dX6_box_145 ?_
                          refine ev_ladd dX6_box_146 ?_
                          rw [show (8 * (M0 (2 + 2 * t)) 0 + (k : Int) * (M0 (2 + 2 * t)) 3) = 8 * (M0 (2 + 2 * t)) 0 + (M0 (2 + 2 * t)) 3 * (k : Int) by grind]
                          refine ev_lstore dX6_box_147 (by decide) ?_
                          refine ev_ls [some (vR _), some (vI _), some (vI _), some (vI _), some (vI _), some (vL _), none, some (vL _), none, some (vI _), some (vI _), some (vL _), none, none, none] rfl ?_
                          refine ev_ldc2 (8) kX6_62 dX6_box_149 (by decide) ?_
                          refine ev_aload_n dX6_box_152 rfl ?_
                          refine em_getR fX6_7.g dX6_box_153 lay_53 rfl ?_
                          refine ev_bipush dX6_box_156 (by decide) ?_
                          refine ev_iload dX6_box_158 rfl ?_
                          refine ev_imul dX6_box_160 ?_
                          refine ev_iconst dX6_box_161 ?_
                          refine ev_iadd dX6_box_162 ?_
                          refine en_iald ((6 * t) + 1) dX6_box_163 lay_54 (by omega) (by omega) ?_
                          rw [e54, l1]
                          refine ev_i2l dX6_box_164 (by omega) ?_
                          refine ev_lmul dX6_box_165 ?_
                          refine ev_iload dX6_box_166 rfl ?_
                          refine ev_i2l dX6_box_168 (by omega) ?_
                          refine ev_aload_n dX6_box_169 rfl ?_
                          refine em_getR fX6_7.g dX6_box_170 lay_53 rfl ?_
                          refine ev_bipush dX6_box_173 (by decide) ?_
                          refine ev_iload dX6_box_175 rfl ?_
                          refine ev_imul dX6_box_177 ?_
                          refine ev_iconst dX6_box_178 ?_
                          refine ev_iadd dX6_box_179 ?_
                          refine en_iald ((6 * t) + 3) dX6_box_180 lay_54 (by omega) (by omega) ?_
                          refine ev_aload_n dX6_box_181 rfl ?_
                          refine em_getR fX6_7.g dX6_box_182 lay_53 rfl ?_
                          refine ev_bipush dX6_box_185 (by decide) ?_
                          refine ev_iload dX6_box_187 rfl ?_
                          refine ev_imul dX6_box_189 ?_
                          refine ev_iconst dX6_box_190 ?_
                          refine ev_iadd dX6_box_191 ?_
                          refine en_iald ((6 * t) + 1) dX6_box_192 lay_54 (by omega) (by omega) ?_
                          refine ev_isub dX6_box_193 ?_
                          rw [e54, l1, l3, show (M0 (2 + 2 * t)) 1 + (M0 (2 + 2 * t)) 4 - (M0 (2 + 2 * t)) 1 = (M0 (2 + 2 * t)) 4 by omega]
                          refine ev_i2l dX6_box_194 (by omega) ?_
                          refine ev_lmul dX6_box_195 ?_
                          refine ev_ladd dX6_box_196 ?_
                          rw [show (8 * (M0 (2 + 2 * t)) 1 + (k : Int) * (M0 (2 + 2 * t)) 4) = 8 * (M0 (2 + 2 * t)) 1 + (M0 (2 + 2 * t)) 4 * (k : Int) by grind]
                          refine ev_lstore dX6_box_197 (by decide) ?_
                          refine ev_ls [some (vR _), some (vI _), some (vI _), some (vI _), some (vI _), some (vL _), none, some (vL _), none, some (vI _), some (vI _), some (vL _), none, some (vL _), none] rfl ?_
                          refine ev_aload_n dX6_box_199 rfl ?_
                          refine em_getR fX6_13.g dX6_box_200 lay_53 rfl ?_
                          refine ev_bipush dX6_box_203 (by decide) ?_
                          refine ev_iload dX6_box_205 rfl ?_
                          refine ev_imul dX6_box_207 ?_
                          refine ev_iload dX6_box_208 rfl ?_
                          refine ev_iadd dX6_box_210 ?_
                          refine en_iald ((9 * t) + k) dX6_box_211 lay_55 (by omega) (by omega) ?_
                          rw [e55, l7k]
                          refine ev_ldc (200000) kX6_39 dX6_box_212 (by decide) ?_
                          refine ev_icmp_eq 292 dX6_box_214 (by omega) (by omega) (fun c214 => ?_) (fun c214 => ?_)
                          · refine ev_iinc dX6_box_292 rfl (by decide) ?_
                            refine ev_ls [some (vR _), some (vI _), some (vI _), some (vI _), some (vI _), some (vL _), none, some (vL _), none, some (vI _), some (vI _), some (vL _), none, some (vL _), none] rfl ?_
                            refine ev_goto 86 dX6_box_295 ?_
                            rw [if_neg (by intro q; have q1 := q.1; have q2 := q.2; omega), if_neg (by intro q; have q1 := q.1; have q2 := q.2; omega), Int.add_zero, Int.add_zero] at hin
                            refine ev_mask [true, true, true, true, true, true, false, true, false, true, true, false, false, false, false] ?_
                            exact hin
                          · refine ev_lload dX6_box_217 rfl ?_
                            refine ev_ldc2 (8) kX6_62 dX6_box_219 (by decide) ?_
                            refine ev_iload_n dX6_box_222 rfl ?_
                            refine ev_i2l dX6_box_223 (by omega) ?_
                            refine ev_lmul dX6_box_224 ?_
                            refine em_S2 (d_down l _ (by omega) (by omega)) mX6_111 dX6_box_225 ?_
                            rintro r M ⟨rfl, rfl⟩
                            refine ev_iload_n dX6_box_228 rfl ?_
                            refine ev_i2l dX6_box_229 (by omega) ?_
                            refine ev_lcmp_ne 292 dX6_box_230 dX6_box_231 (by omega) (by omega) (fun c230 => ?_) (fun c230 => ?_)
                            · refine ev_iinc dX6_box_292 rfl (by decide) ?_
                              refine ev_ls [some (vR _), some (vI _), some (vI _), some (vI _), some (vI _), some (vL _), none, some (vL _), none, some (vI _), some (vI _), some (vL _), none, some (vL _), none] rfl ?_
                              refine ev_goto 86 dX6_box_295 ?_
                              rw [if_neg (by intro q; have q1 := q.1; have q2 := q.2; omega), if_neg (by intro q; have q1 := q.1; have q2 := q.2; omega), Int.add_zero, Int.add_zero] at hin
                              refine ev_mask [true, true, true, true, true, true, false, true, false, true, true, false, false, false, false] ?_
                              exact hin
                            · refine ev_lload dX6_box_234 rfl ?_
                              refine ev_ldc2 (8) kX6_62 dX6_box_236 (by decide) ?_
                              refine ev_iload_n dX6_box_239 rfl ?_
                              refine ev_i2l dX6_box_240 (by omega) ?_
                              refine ev_lmul dX6_box_241 ?_
                              refine em_S2 (d_down l _ (by omega) (by omega)) mX6_111 dX6_box_242 ?_
                              rintro r M ⟨rfl, rfl⟩
                              refine ev_iload_n dX6_box_245 rfl ?_
                              refine ev_i2l dX6_box_246 (by omega) ?_
                              refine ev_lcmp_ne 292 dX6_box_247 dX6_box_248 (by omega) (by omega) (fun c247 => ?_) (fun c247 => ?_)
                              · refine ev_iinc dX6_box_292 rfl (by decide) ?_
                                refine ev_ls [some (vR _), some (vI _), some (vI _), some (vI _), some (vI _), some (vL _), none, some (vL _), none, some (vI _), some (vI _), some (vL _), none, some (vL _), none] rfl ?_
                                refine ev_goto 86 dX6_box_295 ?_
                                rw [if_neg (by intro q; have q1 := q.1; have q2 := q.2; omega), if_neg (by intro q; have q1 := q.1; have q2 := q.2; omega), Int.add_zero, Int.add_zero] at hin
                                refine ev_mask [true, true, true, true, true, true, false, true, false, true, true, false, false, false, false] ?_
                                exact hin
                              · refine ev_lload dX6_box_251 rfl ?_
                                refine ev_lconst1 dX6_box_253 ?_
                                refine ev_ladd dX6_box_254 ?_
                                refine ev_lstore dX6_box_255 (by decide) ?_
                                refine ev_ls [some (vR _), some (vI _), some (vI _), some (vI _), some (vI _), some (vL _), none, some (vL _), none, some (vI _), some (vI _), some (vL _), none, some (vL _), none] rfl ?_
                                refine ev_lload dX6_box_257 rfl ?_
                                refine ev_ldc2 (10) kX6_109 dX6_box_259 (by decide) ?_
                                refine ev_aload_n dX6_box_262 rfl ?_
                                refine em_getR fX6_13.g dX6_box_263 lay_53 rfl ?_
                                refine ev_bipush dX6_box_266 (by decide) ?_
                                refine ev_iload dX6_box_268 rfl ?_
                                refine ev_imul dX6_box_270 ?_
                                refine ev_iload dX6_box_271 rfl ?_
                                refine ev_iadd dX6_box_273 ?_
                                refine en_iald ((9 * t) + k) dX6_box_274 lay_55 (by omega) (by omega) ?_
                                rw [e55, l7k]
                                refine ev_i2l dX6_box_275 (by omega) ?_
                                refine ev_lmul dX6_box_276 ?_
                                refine ev_aload_n dX6_box_277 rfl ?_
                                refine em_getL fX6_141.g dX6_box_278 lay_53 rfl ?_
                                refine ev_aload_n dX6_box_281 rfl ?_
                                refine em_getL fX6_144.g dX6_box_282 lay_53 rfl ?_
                                rw [oa, ob]
                                refine em_S2 (d_down l _ (by omega) (by omega)) mX6_111 dX6_box_285 ?_
                                rintro r M2 ⟨rfl, rfl⟩
                                rw [hob.2.2.2.2]
                                refine ev_lsub dX6_box_288 ?_
                                refine ev_ladd dX6_box_289 ?_
                                refine ev_lstore dX6_box_290 (by decide) ?_
                                refine ev_ls [some (vR _), some (vI _), some (vI _), some (vI _), some (vI _), some (vL _), none, some (vL _), none, some (vI _), some (vI _), some (vL _), none, some (vL _), none] rfl ?_
                                refine ev_iinc dX6_box_292 rfl (by decide) ?_
                                refine ev_ls [some (vR _), some (vI _), some (vI _), some (vI _), some (vI _), some (vL _), none, some (vL _), none, some (vI _), some (vI _), some (vL _), none, some (vL _), none] rfl ?_
                                refine ev_goto 86 dX6_box_295 ?_
                                rw [if_pos (by constructor <;> omega), if_pos (by constructor <;> omega)] at hin
                                refine ev_mask [true, true, true, true, true, true, false, true, false, true, true, false, false, false, false] ?_
                                rw [show 10 * (sumB (M0 (2 + 2 * t)) (M0 (2 + 2 * t + 1)) w i j k + (M0 (2 + 2 * t + 1)) k) - (cntB (M0 (2 + 2 * t)) (M0 (2 + 2 * t + 1)) w i j k + 1) * (oA M0 c T t / oB M0 c T t) = (10 * sumB (M0 (2 + 2 * t)) (M0 (2 + 2 * t + 1)) w i j k - cntB (M0 (2 + 2 * t)) (M0 (2 + 2 * t + 1)) w i j k * (oA M0 c T t / oB M0 c T t)) + (10 * (M0 (2 + 2 * t + 1)) k - oA M0 c T t / oB M0 c T t) by grind, ← Int.add_assoc, ← Int.add_assoc] at hin
                                exact hin
                  have hi0 := inner 10 0 (by omega) (by omega)
                  rw [show cntB (M0 (2 + 2 * t)) (M0 (2 + 2 * t + 1)) w i j 0 = 0 from rfl, show sumB (M0 (2 + 2 * t)) (M0 (2 + 2 * t + 1)) w i j 0 = 0 from rfl, Int.add_zero, Int.mul_zero, Int.zero_mul, Int.sub_zero, Int.add_zero] at hi0
                  exact hi0
                · unfold bxN bxS at hnext
                  rw [if_neg hout, if_neg hout, Int.add_zero, Int.add_zero] at hnext
                  refine ev_iconst dX6_box_83 ?_
                  refine ev_istore dX6_box_84 (by decide) ?_
                  refine ev_ls [some (vR _), some (vI _), some (vI _), some (vI _), some (vI _), some (vL _), none, some (vL _), none, some (vI _), some (vI _), none, none, none, none] rfl ?_
                  refine ev_iload dX6_box_86 rfl ?_
                  refine ev_bipush dX6_box_88 (by decide) ?_
                  refine ev_icmp_ge 298 dX6_box_90 (by omega) (by omega) (fun c90 => ?_) (fun c90 => ?_)
                  · refine ev_iinc dX6_box_298 rfl (by decide) ?_
                    refine ev_ls [some (vR _), some (vI _), some (vI _), some (vI _), some (vI _), some (vL _), none, some (vL _), none, some (vI _), some (vI _), none, none, none, none] rfl ?_
                    refine ev_goto 68 dX6_box_301 ?_
                    omega
                  · refine ev_aload_n dX6_box_93 rfl ?_
                    refine em_getR fX6_16.g dX6_box_94 lay_53 rfl ?_
                    refine ev_iload dX6_box_97 rfl ?_
                    refine en_zald t dX6_box_99 lay_56 (by omega) (by omega) ?_
                    rw [e56]
                    refine ev_if_ne 298 dX6_box_100 (by omega) (fun c100 => ?_) (fun c100 => ?_)
                    · refine ev_iinc dX6_box_298 rfl (by decide) ?_
                      refine ev_ls [some (vR _), some (vI _), some (vI _), some (vI _), some (vI _), some (vL _), none, some (vL _), none, some (vI _), some (vI _), none, none, none, none] rfl ?_
                      refine ev_goto 68 dX6_box_301 ?_
                      refine ev_mask [true, true, true, true, true, true, false, true, false, true, false, false, false, false, false] ?_
                      exact hnext
                    · omega
          exact lp (T + 1) 0 M1 (by omega) (by omega) h1 hv1 hO1
        · refine ev_ldc2 (-1000000000000000000) kX6_147 dX6_box_51 (by decide) ?_
          exact em_lret dX6_box_54 ⟨h, by unfold fBox; rw [cif_neg (by omega)]⟩
