theorem cnt_len {M : Mem} {T : Nat} {c : Nat → Nat} (hv : ∀ t, t < T → M 58 t = (c t : Int)) (g : Nat) : cntN (M 58) (g : Int) T = ((ml c g T).length : Int) := by
  rw [ml_cnt]
  refine sm_congr (fun q hq => ?_)
  show (if M 58 q = (g : Int) then (1 : Int) else 0) = if c q = g then 1 else 0
  rw [hv q hq]
  by_cases e : c q = g
  · rw [if_pos e, if_pos (by omega)]
  · rw [if_neg e, if_neg (by omega)]
theorem FR.net {M M' : Mem} (h : FR M M') : M' 58 = M 58 := h.1 58 (by omega)
set_option maxRecDepth 100000 in
set_option maxHeartbeats 4000000 in
theorem c_behind (l : Launch) {M0 M : Mem} {T N : Nat} {c : Nat → Nat} (h : IV M0 T N c M) : Cm l yX5_behind cX5_behind 1 (some .long) 6 153 [vR 0] M (fun r M' => IV M0 T N c M' ∧ r = some (vL (fBehind M0 c T))) := by
  refine cmo [some (vR 0)] ?_
  have h8 := h.g.1
  have h5 := h.t5
  have h53 := h.t53
  refine ev_aload_n dX5_behind_0 rfl ?_
  refine em_V0 (c_bring l h) mX5_121 dX5_behind_1 lay_0 ?_
  rintro r M1 ⟨rfl, h1, hs1, ho1⟩
  refine ev_aload_n dX5_behind_4 rfl ?_
  refine em_getR fX5_26.g dX5_behind_5 lay_0 rfl ?_
  have hB := kB_le h.g h.l (Nat.le_refl T)
  have hA := kA_le h.g h.l (Nat.le_refl T)
  have hS := fBefore_bd h.g
  have e10 := ho1.2.2.1
  have e11 := ho1.2.2.2.1
  have e4 : M1 19 4 = fBefore M0 T := hs1.2
  have u1 := mbz (x := fBefore M0 T) (z := kB M0 c T T) (a := 2560000000000) (b := 823543) (by omega) (by omega)
  have u2 := Int.mul_nonneg hS.1 (show (0 : Int) ≤ kB M0 c T T by omega)
  refine em_V0 (c_squaresLeft l (by rw [e11]; omega) (by rw [e4, e10, e11]; omega)) mX5_140 dX5_behind_8 lay_19 ?_
  rintro r M2 ⟨rfl, rfl⟩
  exact em_lret dX5_behind_11 ⟨h1, by rw [e4, e10, e11]; unfold fBehind; rw [show fBefore M0 T * kB M0 c T T - kA M0 c T T = -(kA M0 c T T) + fBefore M0 T * kB M0 c T T by omega, Int.add_mul_ediv_right _ _ (by omega), Int.add_comm]⟩
set_option maxRecDepth 100000 in
set_option maxHeartbeats 4000000 in
theorem d_net (l : Launch) {M0 M : Mem} {T N : Nat} {c : Nat → Nat} (h : IV M0 T N c M) {x : Int} (hx : i32 x) : Cm l yX6_net cX6_net 7 (some .int) 4 108 [vR 53, vI x] M (fun r M' => IV M0 T N c M' ∧ r = some (vI (fNet M0 c T x))) := by
  refine cmo [some (vR 53), some (vI x), none, none, none, none, none] ?_
  have h8 := h.g.1
  have h5 := h.t5
  have h53 := h.t53
  refine ev_aload_n dX6_net_0 rfl ?_
  refine em_V0 (d_nets l h.e h.g h53 h.l) mX6_122 dX6_net_1 lay_53 ?_
  rintro r M1 ⟨rfl, hF1, hv1⟩
  have h1 := h.fn (M' := M1) hF1
  have la : ∀ (m1 : Nat) (a : Nat) (M2 : Mem), T < a + m1 → a ≤ T → FR M1 M2 → Em l yX6_net cX6_net 7 (some .int) 4 108 (fun r M' => IV M0 T N c M' ∧ r = some (vI (fNet M0 c T x))) 14 [some (vR 53), some (vI x), some (vI (sm a (fun a => sm T (fun b => if a < b then cif (eD M0 a b) 1 0 else 0)))), some (vI (sm a (fun g => if 1 < (ml c g T).length then (1 : Int) else 0))), some (vI (sm a (fun g => if (ml c (c g) T).length = 1 then (1 : Int) else 0))), some (vI (a : Int)), none] [] M2 := by
    intro m1
    induction m1 with
    | zero => intro a M2 h1a h2a hR2; omega
    | succ m1 ihla =>
      intro a M2 h1a h2a hR2
      have hI2 := h1.fr hR2
      have hT2 := hI2.t53
      have hv2 : ∀ t, t < T → M2 58 t = (c t : Int) := fun t ht => by rw [hR2.net]; exact hv1 t ht
      refine ev_iload dX6_net_14 rfl ?_
      refine ev_aload_n dX6_net_16 rfl ?_
      refine em_getI fX6_40.g dX6_net_17 lay_53 rfl ?_
      refine ev_icmp_ge 112 dX6_net_20 (by omega) (by omega) (fun c1 => ?_) (fun c1 => ?_)
      · have et : T = a := by omega
        subst et
        have eall : sm T (fun a => sm T (fun b => if a < b then cif (eD M0 a b) 1 0 else 0)) = sm T (fun b => sm b (fun a => cif (eD M0 a b) 1 0)) := sm_tri _ T
        refine ev_iload_n dX6_net_112 rfl ?_
        refine ev_if_ne 120 dX6_net_113 (by omega) (fun c113 => ?_) (fun c113 => ?_)
        · refine ev_iload_n dX6_net_120 rfl ?_
          refine ev_iconst dX6_net_121 ?_
          refine ev_icmp_ne 129 dX6_net_122 (by omega) (by omega) (fun c122 => ?_) (fun c122 => ?_)
          · refine ev_iload_n dX6_net_129 rfl ?_
            refine ev_iconst dX6_net_130 ?_
            refine ev_icmp_ne 139 dX6_net_131 (by omega) (by omega) (fun c131 => ?_) (fun c131 => ?_)
            · refine ev_iconst dX6_net_139 ?_
              exact em_iret dX6_net_140 ⟨hI2, by unfold fNet; first | rw [if_pos (by omega), ← eall] | rw [if_neg (by omega), if_pos (by omega)] | rw [if_neg (by omega), if_neg (by omega), if_pos (by omega)] | rw [if_neg (by omega), if_neg (by omega), if_neg (by omega)]⟩
            · refine ev_iload dX6_net_134 rfl ?_
              refine ev_goto 140 dX6_net_136 ?_
              exact em_iret dX6_net_140 ⟨hI2, by unfold fNet; first | rw [if_pos (by omega), ← eall] | rw [if_neg (by omega), if_pos (by omega)] | rw [if_neg (by omega), if_neg (by omega), if_pos (by omega)] | rw [if_neg (by omega), if_neg (by omega), if_neg (by omega)]⟩
          · refine ev_iload_n dX6_net_125 rfl ?_
            refine ev_goto 140 dX6_net_126 ?_
            exact em_iret dX6_net_140 ⟨hI2, by unfold fNet; first | rw [if_pos (by omega), ← eall] | rw [if_neg (by omega), if_pos (by omega)] | rw [if_neg (by omega), if_neg (by omega), if_pos (by omega)] | rw [if_neg (by omega), if_neg (by omega), if_neg (by omega)]⟩
        · refine ev_iload_n dX6_net_116 rfl ?_
          refine ev_goto 140 dX6_net_117 ?_
          exact em_iret dX6_net_140 ⟨hI2, by unfold fNet; first | rw [if_pos (by omega), ← eall] | rw [if_neg (by omega), if_pos (by omega)] | rw [if_neg (by omega), if_neg (by omega), if_pos (by omega)] | rw [if_neg (by omega), if_neg (by omega), if_neg (by omega)]⟩
      · have hva := hv2 a (by omega)
        have hca := h.l.2.1 a (by omega)
        have hi58 : ∀ t, t < T → i32 (M2 58 t) := fun t ht => by have := hv2 t ht; have := h.l.2.1 t ht; omega
        have hl1 := cnt_len hv2 a
        have hl2 : cntN (M2 58) (M2 58 a) T = ((ml c (c a) T).length : Int) := by rw [hva]; exact cnt_len hv2 (c a)
        have hb1 := ml_len c a T
        have hb2 := ml_len c (c a) T
        have lb : ∀ (m2 : Nat) (b : Nat) (M3 : Mem), T < b + m2 → b ≤ T → a < b → FR M2 M3 → Em l yX6_net cX6_net 7 (some .int) 4 108 (fun r M' => IV M0 T N c M' ∧ r = some (vI (fNet M0 c T x))) 72 [some (vR 53), some (vI x), some (vI (sm a (fun a => sm T (fun b => if a < b then cif (eD M0 a b) 1 0 else 0)) + sm b (fun b => if a < b then cif (eD M0 a b) 1 0 else 0))), some (vI (sm (a + 1) (fun g => if 1 < (ml c g T).length then (1 : Int) else 0))), some (vI (sm (a + 1) (fun g => if (ml c (c g) T).length = 1 then (1 : Int) else 0))), some (vI (a : Int)), some (vI (b : Int))] [] M3 := by
          intro m2
          induction m2 with
          | zero => intro b M3 h3 h4 hab hR3; omega
          | succ m2 ihlb =>
            intro b M3 h3 h4 hab hR3
            have hI3 := hI2.fr hR3
            have hT3 := hI3.t53
            refine ev_iload dX6_net_72 rfl ?_
            refine ev_aload_n dX6_net_74 rfl ?_
            refine em_getI fX6_40.g dX6_net_75 lay_53 rfl ?_
            refine ev_icmp_ge 106 dX6_net_78 (by omega) (by omega) (fun c3 => ?_) (fun c3 => ?_)
            · have eb : T = b := by omega
              subst eb
              refine ev_iinc dX6_net_106 rfl (by decide) ?_
              refine ev_ls [some (vR _), some (vI _), some (vI _), some (vI _), some (vI _), some (vI _), some (vI _)] rfl ?_
              refine ev_goto 14 dX6_net_109 ?_
              refine ev_mask [true, true, true, true, true, true, false] ?_
              rw [smS (n := a) (f := (fun a => sm T (fun b => if a < b then cif (eD M0 a b) 1 0 else 0))) rfl]
              exact ihla (a + 1) M3 (by omega) (by omega) (hR2.tr hR3)
            · refine ev_iload_n dX6_net_81 rfl ?_
              refine ev_aload_n dX6_net_82 rfl ?_
              refine ev_iload dX6_net_83 rfl ?_
              refine ev_iload dX6_net_85 rfl ?_
              refine em_V2 (d_differ l (i := a) (j := b) hI3.e h.g (by omega) (by omega)) mX6_118 dX6_net_87 lay_53 ?_
              rintro r M4 ⟨k87, f87, e87, z87, rfl, d87⟩
              refine ev_if_eq 97 dX6_net_90 (by omega) (fun c90 => ?_) (fun c90 => ?_)
              · refine ev_iconst dX6_net_97 ?_
                refine ev_iadd dX6_net_98 ?_
                refine ev_istore_n dX6_net_99 (by decide) ?_
                refine ev_ls [some (vR _), some (vI _), some (vI _), some (vI _), some (vI _), some (vI _), some (vI _)] rfl ?_
                refine ev_iinc dX6_net_100 rfl (by decide) ?_
                refine ev_ls [some (vR _), some (vI _), some (vI _), some (vI _), some (vI _), some (vI _), some (vI _)] rfl ?_
                refine ev_goto 72 dX6_net_103 ?_
                rcases d87 with q | q <;> first | (exfalso; omega) | skip
                all_goals (first | (rw [Int.add_assoc, smS (n := b) (f := fun b => if a < b then cif (eD M0 a b) 1 0 else 0) (x := 1) (by rw [if_pos (show a < b by omega), cif_pos q.2.1])]; exact ihlb (b + 1) M4 (by omega) (by omega) (by omega) (hR3.tr ⟨k87, f87⟩)) | (rw [Int.add_assoc, smS (n := b) (f := fun b => if a < b then cif (eD M0 a b) 1 0 else 0) (x := 0) (by rw [if_pos (show a < b by omega), cif_neg q.2])]; exact ihlb (b + 1) M4 (by omega) (by omega) (by omega) (hR3.tr ⟨k87, f87⟩)))
              · refine ev_iconst dX6_net_93 ?_
                refine ev_goto 98 dX6_net_94 ?_
                refine ev_iadd dX6_net_98 ?_
                refine ev_istore_n dX6_net_99 (by decide) ?_
                refine ev_ls [some (vR _), some (vI _), some (vI _), some (vI _), some (vI _), some (vI _), some (vI _)] rfl ?_
                refine ev_iinc dX6_net_100 rfl (by decide) ?_
                refine ev_ls [some (vR _), some (vI _), some (vI _), some (vI _), some (vI _), some (vI _), some (vI _)] rfl ?_
                refine ev_goto 72 dX6_net_103 ?_
                rcases d87 with q | q <;> first | (exfalso; omega) | skip
                all_goals (first | (rw [Int.add_assoc, smS (n := b) (f := fun b => if a < b then cif (eD M0 a b) 1 0 else 0) (x := 1) (by rw [if_pos (show a < b by omega), cif_pos q.2.1])]; exact ihlb (b + 1) M4 (by omega) (by omega) (by omega) (hR3.tr ⟨k87, f87⟩)) | (rw [Int.add_assoc, smS (n := b) (f := fun b => if a < b then cif (eD M0 a b) 1 0 else 0) (x := 0) (by rw [if_pos (show a < b by omega), cif_neg q.2])]; exact ihlb (b + 1) M4 (by omega) (by omega) (by omega) (hR3.tr ⟨k87, f87⟩)))
        refine ev_iload_n dX6_net_23 rfl ?_
        refine ev_aload_n dX6_net_24 rfl ?_
        refine ev_iload dX6_net_25 rfl ?_
        refine em_V1 (d_members l (c := (a : Int)) h8 hT2 (by omega) hi58) mX6_125 dX6_net_27 lay_53 ?_
        rintro r M2 ⟨rfl, rfl⟩
        refine ev_iconst dX6_net_30 ?_
        refine ev_icmp_le 38 dX6_net_31 (by omega) (by omega) (fun c31 => ?_) (fun c31 => ?_)
        · refine ev_iconst dX6_net_38 ?_
          refine ev_iadd dX6_net_39 ?_
          refine ev_istore_n dX6_net_40 (by decide) ?_
          refine ev_ls [some (vR _), some (vI _), some (vI _), some (vI _), some (vI _), some (vI _), none] rfl ?_
          refine ev_iload dX6_net_41 rfl ?_
          refine ev_aload_n dX6_net_43 rfl ?_
          refine ev_aload_n dX6_net_44 rfl ?_
          refine em_getR fX6_23.g dX6_net_45 lay_53 rfl ?_
          refine ev_iload dX6_net_48 rfl ?_
          refine en_iald a dX6_net_50 lay_58 (by omega) (by omega) ?_
          refine em_V1 (d_members l (c := M2 58 a) h8 hT2 (by omega) hi58) mX6_125 dX6_net_51 lay_53 ?_
          rintro r M2 ⟨rfl, rfl⟩
          refine ev_iconst dX6_net_54 ?_
          refine ev_icmp_ne 62 dX6_net_55 (by omega) (by omega) (fun c55 => ?_) (fun c55 => ?_)
          · refine ev_iconst dX6_net_62 ?_
            refine ev_iadd dX6_net_63 ?_
            refine ev_istore dX6_net_64 (by decide) ?_
            refine ev_ls [some (vR _), some (vI _), some (vI _), some (vI _), some (vI _), some (vI _), none] rfl ?_
            refine ev_iload dX6_net_66 rfl ?_
            refine ev_iconst dX6_net_68 ?_
            refine ev_iadd dX6_net_69 ?_
            refine ev_istore dX6_net_70 (by decide) ?_
            refine ev_ls [some (vR _), some (vI _), some (vI _), some (vI _), some (vI _), some (vI _), some (vI _)] rfl ?_
            first | rw [smS (n := a) (f := (fun g => if 1 < (ml c g T).length then (1 : Int) else 0)) (x := 1) (if_pos (by omega))] | rw [smS (n := a) (f := (fun g => if 1 < (ml c g T).length then (1 : Int) else 0)) (x := 0) (if_neg (by omega))]
            first | rw [smS (n := a) (f := (fun g => if (ml c (c g) T).length = 1 then (1 : Int) else 0)) (x := 1) (if_pos (by omega))] | rw [smS (n := a) (f := (fun g => if (ml c (c g) T).length = 1 then (1 : Int) else 0)) (x := 0) (if_neg (by omega))]
            have hgo := lb (T + 1) (a + 1) M2 (by omega) (by omega) (by omega) (FR.rf M2)
            rw [sm_zero (f := fun b => if a < b then cif (eD M0 a b) 1 0 else 0) (n := a + 1) (fun q hq => if_neg (by omega)), Int.add_zero] at hgo
            exact hgo
          · refine ev_iconst dX6_net_58 ?_
            refine ev_goto 63 dX6_net_59 ?_
            refine ev_iadd dX6_net_63 ?_
            refine ev_istore dX6_net_64 (by decide) ?_
            refine ev_ls [some (vR _), some (vI _), some (vI _), some (vI _), some (vI _), some (vI _), none] rfl ?_
            refine ev_iload dX6_net_66 rfl ?_
            refine ev_iconst dX6_net_68 ?_
            refine ev_iadd dX6_net_69 ?_
            refine ev_istore dX6_net_70 (by decide) ?_
            refine ev_ls [some (vR _), some (vI _), some (vI _), some (vI _), some (vI _), some (vI _), some (vI _)] rfl ?_
            first | rw [smS (n := a) (f := (fun g => if 1 < (ml c g T).length then (1 : Int) else 0)) (x := 1) (if_pos (by omega))] | rw [smS (n := a) (f := (fun g => if 1 < (ml c g T).length then (1 : Int) else 0)) (x := 0) (if_neg (by omega))]
            first | rw [smS (n := a) (f := (fun g => if (ml c (c g) T).length = 1 then (1 : Int) else 0)) (x := 1) (if_pos (by omega))] | rw [smS (n := a) (f := (fun g => if (ml c (c g) T).length = 1 then (1 : Int) else 0)) (x := 0) (if_neg (by omega))]
            have hgo := lb (T + 1) (a + 1) M2 (by omega) (by omega) (by omega) (FR.rf M2)
            rw [sm_zero (f := fun b => if a < b then cif (eD M0 a b) 1 0 else 0) (n := a + 1) (fun q hq => if_neg (by omega)), Int.add_zero] at hgo
            exact hgo
        · refine ev_iconst dX6_net_34 ?_
          refine ev_goto 39 dX6_net_35 ?_
          refine ev_iadd dX6_net_39 ?_
          refine ev_istore_n dX6_net_40 (by decide) ?_
          refine ev_ls [some (vR _), some (vI _), some (vI _), some (vI _), some (vI _), some (vI _), none] rfl ?_
          refine ev_iload dX6_net_41 rfl ?_
          refine ev_aload_n dX6_net_43 rfl ?_
          refine ev_aload_n dX6_net_44 rfl ?_
          refine em_getR fX6_23.g dX6_net_45 lay_53 rfl ?_
          refine ev_iload dX6_net_48 rfl ?_
          refine en_iald a dX6_net_50 lay_58 (by omega) (by omega) ?_
          refine em_V1 (d_members l (c := M2 58 a) h8 hT2 (by omega) hi58) mX6_125 dX6_net_51 lay_53 ?_
          rintro r M2 ⟨rfl, rfl⟩
          refine ev_iconst dX6_net_54 ?_
          refine ev_icmp_ne 62 dX6_net_55 (by omega) (by omega) (fun c55 => ?_) (fun c55 => ?_)
          · refine ev_iconst dX6_net_62 ?_
            refine ev_iadd dX6_net_63 ?_
            refine ev_istore dX6_net_64 (by decide) ?_
            refine ev_ls [some (vR _), some (vI _), some (vI _), some (vI _), some (vI _), some (vI _), none] rfl ?_
            refine ev_iload dX6_net_66 rfl ?_
            refine ev_iconst dX6_net_68 ?_
            refine ev_iadd dX6_net_69 ?_
            refine ev_istore dX6_net_70 (by decide) ?_
            refine ev_ls [some (vR _), some (vI _), some (vI _), some (vI _), some (vI _), some (vI _), some (vI _)] rfl ?_
            first | rw [smS (n := a) (f := (fun g => if 1 < (ml c g T).length then (1 : Int) else 0)) (x := 1) (if_pos (by omega))] | rw [smS (n := a) (f := (fun g => if 1 < (ml c g T).length then (1 : Int) else 0)) (x := 0) (if_neg (by omega))]
            first | rw [smS (n := a) (f := (fun g => if (ml c (c g) T).length = 1 then (1 : Int) else 0)) (x := 1) (if_pos (by omega))] | rw [smS (n := a) (f := (fun g => if (ml c (c g) T).length = 1 then (1 : Int) else 0)) (x := 0) (if_neg (by omega))]
            have hgo := lb (T + 1) (a + 1) M2 (by omega) (by omega) (by omega) (FR.rf M2)
            rw [sm_zero (f := fun b => if a < b then cif (eD M0 a b) 1 0 else 0) (n := a + 1) (fun q hq => if_neg (by omega)), Int.add_zero] at hgo
            exact hgo
          · refine ev_iconst dX6_net_58 ?_
            refine ev_goto 63 dX6_net_59 ?_
            refine ev_iadd dX6_net_63 ?_
            refine ev_istore dX6_net_64 (by decide) ?_
            refine ev_ls [some (vR _), some (vI _), some (vI _), some (vI _), some (vI _), some (vI _), none] rfl ?_
            refine ev_iload dX6_net_66 rfl ?_
            refine ev_iconst dX6_net_68 ?_
            refine ev_iadd dX6_net_69 ?_
            refine ev_istore dX6_net_70 (by decide) ?_
            refine ev_ls [some (vR _), some (vI _), some (vI _), some (vI _), some (vI _), some (vI _), some (vI _)] rfl ?_
            first | rw [smS (n := a) (f := (fun g => if 1 < (ml c g T).length then (1 : Int) else 0)) (x := 1) (if_pos (by omega))] | rw [smS (n := a) (f := (fun g => if 1 < (ml c g T).length then (1 : Int) else 0)) (x := 0) (if_neg (by omega))]
            first | rw [smS (n := a) (f := (fun g => if (ml c (c g) T).length = 1 then (1 : Int) else 0)) (x := 1) (if_pos (by omega))] | rw [smS (n := a) (f := (fun g => if (ml c (c g) T).length = 1 then (1 : Int) else 0)) (x := 0) (if_neg (by omega))]
            have hgo := lb (T + 1) (a + 1) M2 (by omega) (by omega) (by omega) (FR.rf M2)
            rw [sm_zero (f := fun b => if a < b then cif (eD M0 a b) 1 0 else 0) (n := a + 1) (fun q hq => if_neg (by omega)), Int.add_zero] at hgo
            exact hgo
  refine ev_iconst dX6_net_4 ?_
  refine ev_istore_n dX6_net_5 (by decide) ?_
  refine ev_ls [some (vR _), some (vI _), some (vI _), none, none, none, none] rfl ?_
  refine ev_iconst dX6_net_6 ?_
  refine ev_istore_n dX6_net_7 (by decide) ?_
  refine ev_ls [some (vR _), some (vI _), some (vI _), some (vI _), none, none, none] rfl ?_
  refine ev_iconst dX6_net_8 ?_
  refine ev_istore dX6_net_9 (by decide) ?_
  refine ev_ls [some (vR _), some (vI _), some (vI _), some (vI _), some (vI _), none, none] rfl ?_
  refine ev_iconst dX6_net_11 ?_
  refine ev_istore dX6_net_12 (by decide) ?_
  refine ev_ls [some (vR _), some (vI _), some (vI _), some (vI _), some (vI _), some (vI _), none] rfl ?_
  exact la (T + 1) 0 M1 (by omega) (by omega) (FR.rf M1)
theorem rat_bd {a b A B q : Int} (hB : 0 < B) (hb : 0 < b) (h : a * B = A * b) (hA : 0 ≤ A) (hq : A ≤ B * q) : 0 ≤ a ∧ a ≤ q * b := by
  have u1 := Int.mul_nonneg hA (show (0 : Int) ≤ b by omega)
  have u2 := Int.mul_le_mul_of_nonneg_right hq (show (0 : Int) ≤ b by omega)
  refine ⟨dv_ge hB (by rw [Int.mul_comm, h]; exact u1), ?_⟩
  have e1 : B * (a - q * b) ≤ 0 := by
    have e2 : B * (a - q * b) = A * b - B * q * b := by rw [Int.mul_sub, Int.mul_comm B a, h, Int.mul_assoc]
    omega
  have := dv_le hB e1
  omega
theorem sqS_nn (e : Nat → Nat → Prop) (w : Nat → Nat → Int) (n : Nat) : 0 ≤ sqS e w n := sm_nonneg (fun p _ => sm_nonneg (fun q _ => by
  by_cases h : p < q
  · rw [if_pos h]
    by_cases he : e p q
    · rw [cif_pos he]; exact sq_nonneg _
    · rw [cif_neg he]; exact Int.le_refl 0
  · rw [if_neg h]; exact Int.le_refl 0))
set_option maxRecDepth 100000 in
set_option maxHeartbeats 4000000 in
theorem d_behind (l : Launch) {M0 M : Mem} {T N : Nat} {c : Nat → Nat} (h : IV M0 T N c M) : Cm l yX6_behind cX6_behind 10 (some .long) 5 130 [vR 53] M (fun r M' => IV M0 T N c M' ∧ r = some (vL (fBehind M0 c T))) := by
  refine cmo [some (vR 53), none, none, none, none, none, none, none, none, none] ?_
  have h8 := h.g.1
  have h5 := h.t5
  have h53 := h.t53
  refine ev_aload_n dX6_behind_0 rfl ?_
  refine em_V0 (d_offs l h.e h.g h53 h.l) mX6_149 dX6_behind_1 lay_53 ?_
  rintro r M1 ⟨rfl, hF1, hv1, hO1⟩
  have h1 := h.fo (M' := M1) hF1
  have ln : ∀ (m1 : Nat) (n : Nat) (sA sB : Int) (M2 : Mem), T < n + m1 → n ≤ T → FR M1 M2 → sA * kB M0 c T n = kA M0 c T n * sB → 0 < sB → sB ≤ 7 ^ eS c T n → Em l yX6_behind cX6_behind 10 (some .long) 5 130 (fun r M' => IV M0 T N c M' ∧ r = some (vL (fBehind M0 c T))) 11 [some (vR 53), some (vL sA), none, some (vL sB), none, some (vI (n : Int)), none, none, none, none] [] M2 := by
    intro m1
    induction m1 with
    | zero => intro n sA sB M2 h1a h2a hR2 hrel hsB hsB7; omega
    | succ m1 ihln =>
      intro n sA sB M2 h1a h2a hR2 hrel hsB hsB7
      have hI2 := h1.fr hR2
      have hT2 := hI2.t53
      have hkB := kB_le h.g h.l (t := n) (by omega)
      have hkA := kA_le h.g h.l (t := n) (by omega)
      have h77 := p7' (eS_7 h.l h8 (t := n) (by omega))
      refine ev_iload dX6_behind_11 rfl ?_
      refine ev_aload_n dX6_behind_13 rfl ?_
      refine em_getI fX6_40.g dX6_behind_14 lay_53 rfl ?_
      refine ev_icmp_ge 181 dX6_behind_17 (by omega) (by omega) (fun c1 => ?_) (fun c1 => ?_)
      · have et : T = n := by omega
        subst et
        have hsr : 0 ≤ sA ∧ sA ≤ 2560000000000 * sB := rat_bd hkB.1 hsB hrel hkA.1 hkA.2
        have hfl : (-sA) / sB = (-(kA M0 c T T)) / kB M0 c T T := fl_eq hsB hkB.1 (by rw [Int.neg_mul, Int.neg_mul, hrel])
        refine ev_aload_n dX6_behind_181 rfl ?_
        refine em_V0 (d_befor l hI2) mX6_155 dX6_behind_182 lay_53 ?_
        rintro r M3 ⟨h3, rfl⟩
        refine ev_lload_n dX6_behind_185 rfl ?_
        refine ev_lneg dX6_behind_186 ?_
        refine ev_lload_n dX6_behind_187 rfl ?_
        refine em_S2 (d_down l _ (by omega) (by omega)) mX6_111 dX6_behind_188 ?_
        rintro r M4 ⟨rfl, rfl⟩
        refine ev_ladd dX6_behind_191 ?_
        exact em_lret dX6_behind_192 ⟨h3, by rw [hfl]; rfl⟩
      · refine ev_lconst0 dX6_behind_20 ?_
        refine ev_lstore dX6_behind_21 (by decide) ?_
        refine ev_ls [some (vR _), some (vL _), none, some (vL _), none, some (vI _), some (vL _), none, none, none] rfl ?_
        refine ev_iconst dX6_behind_23 ?_
        refine ev_istore dX6_behind_24 (by decide) ?_
        refine ev_ls [some (vR _), some (vL _), none, some (vL _), none, some (vI _), some (vL _), none, some (vI _), none] rfl ?_
        have la : ∀ (m2 : Nat) (a : Nat) (M3 : Mem), T < a + m2 → a ≤ T → FR M1 M3 → Em l yX6_behind cX6_behind 10 (some .long) 5 130 (fun r M' => IV M0 T N c M' ∧ r = some (vL (fBehind M0 c T))) 26 [some (vR 53), some (vL sA), none, some (vL sB), none, some (vI (n : Int)), some (vL (sm a (fun a => sm T (fun b => if a < b then pN M0 c (M1 61) n a b else 0)))), none, some (vI (a : Int)), none] [] M3 := by
          intro m2
          induction m2 with
          | zero => intro a M3 h3a h4a hR3; omega
          | succ m2 ihla =>
            intro a M3 h3a h4a hR3
            have hI3 := h1.fr hR3
            have hT3 := hI3.t53
            refine ev_iload dX6_behind_26 rfl ?_
            refine ev_aload_n dX6_behind_28 rfl ?_
            refine em_getI fX6_40.g dX6_behind_29 lay_53 rfl ?_
            refine ev_icmp_ge 126 dX6_behind_32 (by omega) (by omega) (fun c3 => ?_) (fun c3 => ?_)
            · have ea : T = a := by omega
              subst ea
              have hS1 : c n = n → 0 < (ml c n T).length ∧ me c n T 0 = n := fun q => me_zero h.l (by omega) q
              have hcl : sm T (fun a => sm T (fun b => if a < b then pN M0 c (M1 61) n a b else 0)) = clS (eN M0 c n T) (wN M0 c n T) (ml c n T).length (xN M0 c n T 1) := by
                by_cases q : c n = n
                · exact pN_sum (fun i hi => (hO1 n (by omega) q i hi).1)
                · have l0 := ml_notroot h.l q
                  exact pN_sum (fun i hi => by omega)
              rw [hcl]
              have hkB1 := kB_le h.g h.l (t := n + 1) (by omega)
              have hkA1 := kA_le h.g h.l (t := n + 1) (by omega)
              have h771 := p7' (eS_7 h.l h8 (t := n + 1) (by omega))
              have eB : kB M0 c T (n + 1) = if c n = n then kB M0 c T n * dN M0 c n T 0 else kB M0 c T n := rfl
              have eA : kA M0 c T (n + 1) = if c n = n then kA M0 c T n * dN M0 c n T 0 + clS (eN M0 c n T) (wN M0 c n T) (nN c n T + 1) (xN M0 c n T 0) * kB M0 c T n else kA M0 c T n := rfl
              have eE : eS c T (n + 1) = eS c T n + (if c n = n then nN c n T else 0) := rfl
              by_cases hroot : c n = n
              · have hz := hS1 hroot
                have hlen : (ml c n T).length = nN c n T + 1 := by unfold nN; omega
                rw [hlen]
                have b0 := xN_bd h.g h.l (g := n) hz.1 (o := 0) (by omega)
                have b1 := xN_bd h.g h.l (g := n) hz.1 (o := 1) (by omega)
                have hsc := clS_scale b0.2.2.2.2.1 b0.2.2.2.2.2 b1.2.2.2.2.2
                have hc1 := clS_bd b1.2.1 b1.2.2.2.2.2
                have hsq := sqS_bd (c := c) (g := n) h.g hz.1
                have hml := ml_len c n T
                rw [if_pos hroot] at eB eA eE
                have hu1 := mbz (x := dN M0 c n T 1) (z := sqS (eN M0 c n T) (wN M0 c n T) (nN c n T + 1)) (a := 823543) (b := 2560000000000) (by have := b1.2.1; have := b1.2.2.2.1; omega) (by have := sqS_nn (eN M0 c n T) (wN M0 c n T) (nN c n T + 1); omega)
                have hu62 : M3 62 n = dN M0 c n T 1 := by have := (hO1 n (by omega) hroot 0 hz.1).2; rw [hz.2] at this; rw [hR3.1 62 (by omega)]; exact this
                have hstep := step_rel hrel hsc
                rw [← eA, ← eB] at hstep
                have hpw : sB * dN M0 c n T 1 ≤ 7 ^ eS c T (n + 1) := by rw [eE, Int.pow_add]; exact Int.mul_le_mul hsB7 b1.2.2.1 (by have := b1.2.1; omega) (by have := pow_pos' 7 (by omega) (eS c T n); omega)
                have hD1 := b1.2.1
                have hsB1 : 0 < sB * dN M0 c n T 1 := Int.mul_pos hsB b1.2.1
                generalize hC : clS (eN M0 c n T) (wN M0 c n T) (nN c n T + 1) (xN M0 c n T 1) = C at *
                refine ev_lload dX6_behind_126 rfl ?_
                refine ev_lconst0 dX6_behind_128 ?_
                refine ev_lcmp_eq 175 dX6_behind_129 dX6_behind_130 (by omega) (by omega) (fun c129 => ?_) (fun c129 => ?_)
                · have hC0 : C = 0 := by omega
                  refine ev_iinc dX6_behind_175 rfl (by decide) ?_
                  refine ev_ls [some (vR _), some (vL _), none, some (vL _), none, some (vI _), some (vL _), none, some (vI _), none] rfl ?_
                  refine ev_goto 11 dX6_behind_178 ?_
                  refine ev_mask [true, true, true, true, true, true, false, false, false, false] ?_
                  refine ihln (n + 1) sA sB M3 (by omega) (by omega) hR3 ?_ hsB (Int.le_trans hsB7 ?_)
                  · have hc0 : clS (eN M0 c n T) (wN M0 c n T) (nN c n T + 1) (xN M0 c n T 0) = 0 := by rw [hC0, Int.mul_zero] at hsc; rcases Int.mul_eq_zero.mp hsc with q | q; omega; exact q
                    rw [eA, eB, hc0]; grind
                  · rw [eE, Int.pow_add]; have := pow_pos' 7 (by omega) (eS c T n); have := pow_pos' 7 (by omega) (nN c n T); have := Int.mul_le_mul_of_nonneg_left (show (1 : Int) ≤ 7 ^ nN c n T by omega) (show (0 : Int) ≤ 7 ^ eS c T n by omega); omega
                · refine ev_lload_n dX6_behind_133 rfl ?_
                  refine ev_aload_n dX6_behind_134 rfl ?_
                  refine em_getR fX6_36.g dX6_behind_135 lay_53 rfl ?_
                  refine ev_iload dX6_behind_138 rfl ?_
                  refine en_lald n dX6_behind_140 lay_62 (by omega) (by omega) ?_
                  refine ev_lmul dX6_behind_141 ?_
                  refine ev_lload dX6_behind_142 rfl ?_
                  refine ev_lload_n dX6_behind_144 rfl ?_
                  refine ev_lmul dX6_behind_145 ?_
                  refine ev_ladd dX6_behind_146 ?_
                  rw [hu62]
                  refine ev_lstore_n dX6_behind_147 (by decide) ?_
                  refine ev_ls [some (vR _), some (vL _), none, some (vL _), none, some (vI _), some (vL _), none, some (vI _), none] rfl ?_
                  refine ev_lload_n dX6_behind_148 rfl ?_
                  refine ev_aload_n dX6_behind_149 rfl ?_
                  refine em_getR fX6_36.g dX6_behind_150 lay_53 rfl ?_
                  refine ev_iload dX6_behind_153 rfl ?_
                  refine en_lald n dX6_behind_155 lay_62 (by omega) (by omega) ?_
                  refine ev_lmul dX6_behind_156 ?_
                  rw [hu62]
                  generalize hsA' : sA * dN M0 c n T 1 + C * sB = sA' at *
                  generalize hsB' : sB * dN M0 c n T 1 = sB' at *
                  have hsr : 0 ≤ sA' ∧ sA' ≤ 2560000000000 * sB' := rat_bd hkB1.1 hsB1 hstep hkA1.1 hkA1.2
                  obtain ⟨g, hg0, hgg, hga, hgb⟩ := red_eq (a := sA') hsB1
                  have hgl : g ≤ sB' := by rw [← hgg]; exact Int.le_of_dvd hsB1 (Int.gcd_dvd_right sA' sB')
                  refine ev_lstore_n dX6_behind_157 (by decide) ?_
                  refine ev_ls [some (vR _), some (vL _), none, some (vL _), none, some (vI _), some (vL _), none, some (vI _), none] rfl ?_
                  refine ev_lload_n dX6_behind_158 rfl ?_
                  refine ev_lload_n dX6_behind_159 rfl ?_
                  refine em_S2 (d_common l _ (by omega) (by omega)) mX6_84 dX6_behind_160 ?_
                  rintro r M3 ⟨rfl, rfl⟩
                  rw [hgg]
                  refine ev_lstore dX6_behind_163 (by decide) ?_
                  refine ev_ls [some (vR _), some (vL _), none, some (vL _), none, some (vI _), some (vL _), none, some (vL _), none] rfl ?_
                  refine ev_lload_n dX6_behind_165 rfl ?_
                  refine ev_lload dX6_behind_166 rfl ?_
                  refine ev_ldiv dX6_behind_168 (by omega) (by omega) (by omega) ?_
                  refine ev_lstore_n dX6_behind_169 (by decide) ?_
                  refine ev_ls [some (vR _), some (vL _), none, some (vL _), none, some (vI _), some (vL _), none, some (vL _), none] rfl ?_
                  refine ev_lload_n dX6_behind_170 rfl ?_
                  refine ev_lload dX6_behind_171 rfl ?_
                  refine ev_ldiv dX6_behind_173 (by omega) (by omega) (by omega) ?_
                  refine ev_lstore_n dX6_behind_174 (by decide) ?_
                  refine ev_ls [some (vR _), some (vL _), none, some (vL _), none, some (vI _), some (vL _), none, some (vL _), none] rfl ?_
                  refine ev_iinc dX6_behind_175 rfl (by decide) ?_
                  refine ev_ls [some (vR _), some (vL _), none, some (vL _), none, some (vI _), some (vL _), none, some (vL _), none] rfl ?_
                  refine ev_goto 11 dX6_behind_178 ?_
                  refine ev_mask [true, true, true, true, true, true, false, false, false, false] ?_
                  have hq0 : 0 < sB'.tdiv g := by rcases Int.lt_or_le 0 (sB'.tdiv g) with q | q; exact q; (have := pn (show (0 : Int) ≤ g by omega) q; omega)
                  have hq1 : sB'.tdiv g ≤ sB' := by have := Int.mul_le_mul_of_nonneg_right (show (1 : Int) ≤ g by omega) (show (0 : Int) ≤ sB'.tdiv g by omega); omega
                  refine ihln (n + 1) (sA'.tdiv g) (sB'.tdiv g) M3 (by omega) (by omega) hR3 ?_ hq0 (by omega)
                  refine Int.eq_of_mul_eq_mul_left (show g ≠ 0 by omega) ?_
                  rw [← Int.mul_assoc, ← hga, hstep, Int.mul_comm g, Int.mul_assoc, Int.mul_comm _ g, ← hgb]
              · have l0 := ml_notroot h.l hroot
                rw [l0]
                rw [show clS (eN M0 c n T) (wN M0 c n T) 0 (xN M0 c n T 1) = 0 from rfl]
                rw [if_neg hroot] at eB eA eE
                refine ev_lload dX6_behind_126 rfl ?_
                refine ev_lconst0 dX6_behind_128 ?_
                refine ev_lcmp_eq 175 dX6_behind_129 dX6_behind_130 (by omega) (by omega) (fun c129 => ?_) (fun c129 => ?_)
                · refine ev_iinc dX6_behind_175 rfl (by decide) ?_
                  refine ev_ls [some (vR _), some (vL _), none, some (vL _), none, some (vI _), some (vL _), none, some (vI _), none] rfl ?_
                  refine ev_goto 11 dX6_behind_178 ?_
                  refine ev_mask [true, true, true, true, true, true, false, false, false, false] ?_
                  exact ihln (n + 1) sA sB M3 (by omega) (by omega) hR3 (by rw [eA, eB]; exact hrel) hsB (by rw [eE]; exact hsB7)
                · omega
            · have hva : M3 58 a = (c a : Int) := by rw [hR3.1 58 (by omega)]; exact hv1 a (by omega)
              have hca := h.l.2.1 a (by omega)
              refine ev_iload dX6_behind_35 rfl ?_
              refine ev_iconst dX6_behind_37 ?_
              refine ev_iadd dX6_behind_38 ?_
              refine ev_istore dX6_behind_39 (by decide) ?_
              refine ev_ls [some (vR _), some (vL _), none, some (vL _), none, some (vI _), some (vL _), none, some (vI _), some (vI _)] rfl ?_
              have lb : ∀ (m3 : Nat) (b : Nat) (M4 : Mem), T < b + m3 → b ≤ T → a < b → FR M1 M4 → Em l yX6_behind cX6_behind 10 (some .long) 5 130 (fun r M' => IV M0 T N c M' ∧ r = some (vL (fBehind M0 c T))) 41 [some (vR 53), some (vL sA), none, some (vL sB), none, some (vI (n : Int)), some (vL (sm a (fun a => sm T (fun b => if a < b then pN M0 c (M1 61) n a b else 0)) + sm b (fun b => if a < b then pN M0 c (M1 61) n a b else 0))), none, some (vI (a : Int)), some (vI (b : Int))] [] M4 := by
                intro m3
                induction m3 with
                | zero => intro b M4 h5b h6b hab hR4; omega
                | succ m3 ihlb =>
                  intro b M4 h5b h6b hab hR4
                  have hI4 := h1.fr hR4
                  have hT4 := hI4.t53
                  refine ev_iload dX6_behind_41 rfl ?_
                  refine ev_aload_n dX6_behind_43 rfl ?_
                  refine em_getI fX6_40.g dX6_behind_44 lay_53 rfl ?_
                  refine ev_icmp_ge 120 dX6_behind_47 (by omega) (by omega) (fun c4 => ?_) (fun c4 => ?_)
                  · have eb : T = b := by omega
                    subst eb
                    refine ev_iinc dX6_behind_120 rfl (by decide) ?_
                    refine ev_ls [some (vR _), some (vL _), none, some (vL _), none, some (vI _), some (vL _), none, some (vI _), some (vI _)] rfl ?_
                    refine ev_goto 26 dX6_behind_123 ?_
                    refine ev_mask [true, true, true, true, true, true, true, true, true, false] ?_
                    rw [smS (n := a) (f := (fun a => sm T (fun b => if a < b then pN M0 c (M1 61) n a b else 0))) rfl]
                    exact ihla (a + 1) M4 (by omega) (by omega) hR4
                  · have hva4 : M4 58 a = (c a : Int) := by rw [hR4.1 58 (by omega)]; exact hv1 a (by omega)
                    have hvb4 : M4 58 b = (c b : Int) := by rw [hR4.1 58 (by omega)]; exact hv1 b (by omega)
                    have hcb := h.l.2.1 b (by omega)
                    refine ev_lload dX6_behind_50 rfl ?_
                    refine ev_aload_n dX6_behind_52 rfl ?_
                    refine em_getR fX6_23.g dX6_behind_53 lay_53 rfl ?_
                    refine ev_iload dX6_behind_56 rfl ?_
                    refine en_iald a dX6_behind_58 lay_58 (by omega) (by omega) ?_
                    refine ev_iload dX6_behind_59 rfl ?_
                    refine ev_icmp_ne 110 dX6_behind_61 (by omega) (by omega) (fun c61 => ?_) (fun c61 => ?_)
                    · refine ev_lconst0 dX6_behind_110 ?_
                      refine ev_ladd dX6_behind_111 ?_
                      refine ev_lstore dX6_behind_112 (by decide) ?_
                      refine ev_ls [some (vR _), some (vL _), none, some (vL _), none, some (vI _), some (vL _), none, some (vI _), some (vI _)] rfl ?_
                      refine ev_iinc dX6_behind_114 rfl (by decide) ?_
                      refine ev_ls [some (vR _), some (vL _), none, some (vL _), none, some (vI _), some (vL _), none, some (vI _), some (vI _)] rfl ?_
                      refine ev_goto 41 dX6_behind_117 ?_
                      first | (have hR5 : FR M1 M5 := hR4.tr ⟨k81, f81⟩; rw [Int.add_assoc, smS (n := b) (f := (fun b => if a < b then pN M0 c (M1 61) n a b else 0)) (x := 0) (by rw [if_pos (show a < b by omega)]; unfold pN; rcases d81 with q | q; (by_cases q2 : c a = n ∧ c b = n; (rw [if_pos q2, cif_neg q.2]); (rw [if_neg q2])); (exfalso; omega))]; exact ihlb (b + 1) M5 (by omega) (by omega) (by omega) hR5) | (rw [Int.add_assoc, smS (n := b) (f := (fun b => if a < b then pN M0 c (M1 61) n a b else 0)) (x := 0) (by rw [if_pos (show a < b by omega)]; unfold pN; rw [if_neg (by omega)])]; exact ihlb (b + 1) M4 (by omega) (by omega) (by omega) hR4)
                    · refine ev_aload_n dX6_behind_64 rfl ?_
                      refine em_getR fX6_23.g dX6_behind_65 lay_53 rfl ?_
                      refine ev_iload dX6_behind_68 rfl ?_
                      refine en_iald b dX6_behind_70 lay_58 (by omega) (by omega) ?_
                      refine ev_iload dX6_behind_71 rfl ?_
                      refine ev_icmp_ne 110 dX6_behind_73 (by omega) (by omega) (fun c73 => ?_) (fun c73 => ?_)
                      · refine ev_lconst0 dX6_behind_110 ?_
                        refine ev_ladd dX6_behind_111 ?_
                        refine ev_lstore dX6_behind_112 (by decide) ?_
                        refine ev_ls [some (vR _), some (vL _), none, some (vL _), none, some (vI _), some (vL _), none, some (vI _), some (vI _)] rfl ?_
                        refine ev_iinc dX6_behind_114 rfl (by decide) ?_
                        refine ev_ls [some (vR _), some (vL _), none, some (vL _), none, some (vI _), some (vL _), none, some (vI _), some (vI _)] rfl ?_
                        refine ev_goto 41 dX6_behind_117 ?_
                        first | (have hR5 : FR M1 M5 := hR4.tr ⟨k81, f81⟩; rw [Int.add_assoc, smS (n := b) (f := (fun b => if a < b then pN M0 c (M1 61) n a b else 0)) (x := 0) (by rw [if_pos (show a < b by omega)]; unfold pN; rcases d81 with q | q; (by_cases q2 : c a = n ∧ c b = n; (rw [if_pos q2, cif_neg q.2]); (rw [if_neg q2])); (exfalso; omega))]; exact ihlb (b + 1) M5 (by omega) (by omega) (by omega) hR5) | (rw [Int.add_assoc, smS (n := b) (f := (fun b => if a < b then pN M0 c (M1 61) n a b else 0)) (x := 0) (by rw [if_pos (show a < b by omega)]; unfold pN; rw [if_neg (by omega)])]; exact ihlb (b + 1) M4 (by omega) (by omega) (by omega) hR4)
                      · refine ev_aload_n dX6_behind_76 rfl ?_
                        refine ev_iload dX6_behind_77 rfl ?_
                        refine ev_iload dX6_behind_79 rfl ?_
                        refine em_V2 (d_differ l (i := a) (j := b) hI4.e h.g (by omega) (by omega)) mX6_118 dX6_behind_81 lay_53 ?_
                        rintro r M5 ⟨k81, f81, e81, z81, rfl, d81⟩
                        refine ev_if_eq 110 dX6_behind_84 (by omega) (fun c84 => ?_) (fun c84 => ?_)
                        · refine ev_lconst0 dX6_behind_110 ?_
                          refine ev_ladd dX6_behind_111 ?_
                          refine ev_lstore dX6_behind_112 (by decide) ?_
                          refine ev_ls [some (vR _), some (vL _), none, some (vL _), none, some (vI _), some (vL _), none, some (vI _), some (vI _)] rfl ?_
                          refine ev_iinc dX6_behind_114 rfl (by decide) ?_
                          refine ev_ls [some (vR _), some (vL _), none, some (vL _), none, some (vI _), some (vL _), none, some (vI _), some (vI _)] rfl ?_
                          refine ev_goto 41 dX6_behind_117 ?_
                          first | (have hR5 : FR M1 M5 := hR4.tr ⟨k81, f81⟩; rw [Int.add_assoc, smS (n := b) (f := (fun b => if a < b then pN M0 c (M1 61) n a b else 0)) (x := 0) (by rw [if_pos (show a < b by omega)]; unfold pN; rcases d81 with q | q; (by_cases q2 : c a = n ∧ c b = n; (rw [if_pos q2, cif_neg q.2]); (rw [if_neg q2])); (exfalso; omega))]; exact ihlb (b + 1) M5 (by omega) (by omega) (by omega) hR5) | (rw [Int.add_assoc, smS (n := b) (f := (fun b => if a < b then pN M0 c (M1 61) n a b else 0)) (x := 0) (by rw [if_pos (show a < b by omega)]; unfold pN; rw [if_neg (by omega)])]; exact ihlb (b + 1) M4 (by omega) (by omega) (by omega) hR4)
                        · refine ev_aload_n dX6_behind_87 rfl ?_
                          refine em_getL fX6_114.g dX6_behind_88 lay_53 rfl ?_
                          refine ev_aload_n dX6_behind_91 rfl ?_
                          refine em_getR fX6_33.g dX6_behind_92 lay_53 rfl ?_
                          refine ev_iload dX6_behind_95 rfl ?_
                          refine en_lald a dX6_behind_97 lay_61 (by omega) (by omega) ?_
                          refine ev_aload_n dX6_behind_98 rfl ?_
                          refine em_getR fX6_33.g dX6_behind_99 lay_53 rfl ?_
                          refine ev_iload dX6_behind_102 rfl ?_
                          refine en_lald b dX6_behind_104 lay_61 (by omega) (by omega) ?_
                          refine ev_lsub dX6_behind_105 ?_
                          refine ev_lmul dX6_behind_106 ?_
                          refine ev_goto 111 dX6_behind_107 ?_
                          refine ev_ladd dX6_behind_111 ?_
                          refine ev_lstore dX6_behind_112 (by decide) ?_
                          refine ev_ls [some (vR _), some (vL _), none, some (vL _), none, some (vI _), some (vL _), none, some (vI _), some (vI _)] rfl ?_
                          refine ev_iinc dX6_behind_114 rfl (by decide) ?_
                          refine ev_ls [some (vR _), some (vL _), none, some (vL _), none, some (vI _), some (vL _), none, some (vI _), some (vI _)] rfl ?_
                          refine ev_goto 41 dX6_behind_117 ?_
                          rcases d81 with q | q
                          · exfalso; omega
                          have hR5 : FR M1 M5 := hR4.tr ⟨k81, f81⟩
                          rw [Int.add_assoc, smS (n := b) (f := (fun b => if a < b then pN M0 c (M1 61) n a b else 0)) (by rw [if_pos (show a < b by omega)]; unfold pN; rw [if_pos ⟨by omega, by omega⟩, cif_pos q.2.1, hR5.1 61 (by omega), q.2.2])]
                          exact ihlb (b + 1) M5 (by omega) (by omega) (by omega) hR5
              have hgo := lb (T + 1) (a + 1) M3 (by omega) (by omega) (by omega) hR3
              rw [sm_zero (f := fun b => if a < b then pN M0 c (M1 61) n a b else 0) (n := a + 1) (fun q hq => if_neg (by omega)), Int.add_zero] at hgo
              exact hgo
        exact la (T + 1) 0 M2 (by omega) (by omega) hR2
  refine ev_lconst0 dX6_behind_4 ?_
  refine ev_lstore_n dX6_behind_5 (by decide) ?_
  refine ev_ls [some (vR _), some (vL _), none, none, none, none, none, none, none, none] rfl ?_
  refine ev_lconst1 dX6_behind_6 ?_
  refine ev_lstore_n dX6_behind_7 (by decide) ?_
  refine ev_ls [some (vR _), some (vL _), none, some (vL _), none, none, none, none, none, none] rfl ?_
  refine ev_iconst dX6_behind_8 ?_
  refine ev_istore dX6_behind_9 (by decide) ?_
  refine ev_ls [some (vR _), some (vL _), none, some (vL _), none, some (vI _), none, none, none, none] rfl ?_
  exact ln (T + 1) 0 0 1 M1 (by omega) (by omega) (FR.rf M1) (by show (0 : Int) * 1 = 0 * 1; omega) (by omega) (by show (1 : Int) ≤ 7 ^ 0; omega)
