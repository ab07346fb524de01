theorem c_diff (l : Launch) {M0 M : Mem} {T i j : Nat} (hE : EN M0 M) (hG : GT M0 T) (hi : i < T) (hj : j < T) : Cm l yX1_differenceOf cX1_differenceOf 7 (some .int) 1 30 [vR 18, vR (2 + 2 * i), vR (2 + 2 * j)] M (fun r M' => (∀ k, k ≠ 18 → M' k = M k) ∧ ((¬ eD M0 i j ∧ r = some (vI (-1000000002))) ∨ (eD M0 i j ∧ r = some (vI (wD M0 i j))))) := by
  have h8 := hG.1
  refine cm_imp ?_ (c_differenceOf l (by omega) (by omega) (hE.tr (by omega) (hG.2 i hi).1) (hE.tr (by omega) (hG.2 j hj).1))
  rintro r M' ⟨h1, h2⟩
  refine ⟨h1, ?_⟩
  rw [← hE.e (a := i) (b := j) (by omega) (by omega), ← hE.w (a := i) (b := j) (by omega) (by omega)]
  exact h2
set_option maxRecDepth 100000 in
set_option maxHeartbeats 4000000 in
theorem c_tellOffs (l : Launch) {M : Mem} {n : Nat} {u : Nat → Nat} {x : Nat → Int} {D : Int} (h7 : n ≤ 7) (hu : ∀ i, i < n + 1 → M 39 i = (u i : Int) ∧ u i < 8) (hinj : ∀ i j, i < n + 1 → j < n + 1 → u i = u j → i = j) (hx : ∀ i, i < n + 1 → M 49 i = x i) (hxb : ∀ i, i < n + 1 → -8070721400000 ≤ x i ∧ x i ≤ 8070721400000) (hD : 0 < D ∧ D ≤ 823543) : Cm l yX0_tellOffs cX0_tellOffs 7 none 2 58 [vR 19, vI ((n + 1 : Nat) : Int), vL D] M (fun r M' => r = none ∧ (∀ k, (k < 21 ∨ 29 ≤ k) → M' k = M k) ∧ (∀ i, i < n + 1 → M' (21 + u i) 0 = (offA n x i).tdiv (Int.gcd (offA n x i) (((n + 1 : Nat) : Int) * D) : Int) ∧ M' (21 + u i) 1 = (((n + 1 : Nat) : Int) * D).tdiv (Int.gcd (offA n x i) (((n + 1 : Nat) : Int) * D) : Int)) ∧ ∀ t, (∀ i, i < n + 1 → u i ≠ t) → M' (21 + t) = M (21 + t)) := by
  refine cmo [some (vR 19), some (vI ((n + 1 : Nat) : Int)), some (vL D), none, none, none, none] ?_
  have hsum := sm_bd (f := x) (c := 8070721400000) (n := n + 1) (fun i hi => hxb i hi)
  have l1 : ∀ (m1 : Nat) (m : Nat), n + 1 < m + m1 → m ≤ n + 1 → Em l yX0_tellOffs cX0_tellOffs 7 none 2 58 (fun r M' => r = none ∧ (∀ k, (k < 21 ∨ 29 ≤ k) → M' k = M k) ∧ (∀ i, i < n + 1 → M' (21 + u i) 0 = (offA n x i).tdiv (Int.gcd (offA n x i) (((n + 1 : Nat) : Int) * D) : Int) ∧ M' (21 + u i) 1 = (((n + 1 : Nat) : Int) * D).tdiv (Int.gcd (offA n x i) (((n + 1 : Nat) : Int) * D) : Int)) ∧ ∀ t, (∀ i, i < n + 1 → u i ≠ t) → M' (21 + t) = M (21 + t)) 6 [some (vR 19), some (vI ((n + 1 : Nat) : Int)), some (vL D), none, some (vL (sm m x)), none, some (vI (m : Int))] [] M := by
    intro m1
    induction m1 with
    | zero => intro m h1 h2; omega
    | succ m1 ihl1 =>
      intro m h1 h2
      refine ev_iload dX0_tellOffs_6 rfl ?_
      refine ev_iload_n dX0_tellOffs_8 rfl ?_
      refine ev_icmp_ge 30 dX0_tellOffs_9 (by omega) (by omega) (fun c1 => ?_) (fun c1 => ?_)
      · have et : n + 1 = m := by omega
        subst et
        refine ev_iconst dX0_tellOffs_30 ?_
        refine ev_istore dX0_tellOffs_31 (by decide) ?_
        refine ev_ls [some (vR _), some (vI _), some (vL _), none, some (vL _), none, some (vI _)] rfl ?_
        have l2 : ∀ (m2 : Nat) (m : Nat) (M2 : Mem), n + 1 < m + m2 → m ≤ n + 1 → (∀ k, (k < 21 ∨ 29 ≤ k) → M2 k = M k) → (∀ i, i < m → M2 (21 + u i) 0 = (offA n x i).tdiv (Int.gcd (offA n x i) (((n + 1 : Nat) : Int) * D) : Int) ∧ M2 (21 + u i) 1 = (((n + 1 : Nat) : Int) * D).tdiv (Int.gcd (offA n x i) (((n + 1 : Nat) : Int) * D) : Int)) → (∀ t, (∀ i, i < m → u i ≠ t) → M2 (21 + t) = M (21 + t)) → Em l yX0_tellOffs cX0_tellOffs 7 none 2 58 (fun r M' => r = none ∧ (∀ k, (k < 21 ∨ 29 ≤ k) → M' k = M k) ∧ (∀ i, i < n + 1 → M' (21 + u i) 0 = (offA n x i).tdiv (Int.gcd (offA n x i) (((n + 1 : Nat) : Int) * D) : Int) ∧ M' (21 + u i) 1 = (((n + 1 : Nat) : Int) * D).tdiv (Int.gcd (offA n x i) (((n + 1 : Nat) : Int) * D) : Int)) ∧ ∀ t, (∀ i, i < n + 1 → u i ≠ t) → M' (21 + t) = M (21 + t)) 33 [some (vR 19), some (vI ((n + 1 : Nat) : Int)), some (vL D), none, some (vL (sm (n + 1) x)), none, some (vI (m : Int))] [] M2 := by
          intro m2
          induction m2 with
          | zero => intro m M2 h3 h4 hk2 hv2 ho2; omega
          | succ m2 ihl2 =>
            intro m M2 h3 h4 hk2 hv2 ho2
            refine ev_iload dX0_tellOffs_33 rfl ?_
            refine ev_iload_n dX0_tellOffs_35 rfl ?_
            refine ev_icmp_ge 77 dX0_tellOffs_36 (by omega) (by omega) (fun c2 => ?_) (fun c2 => ?_)
            · have et : n + 1 = m := by omega
              subst et
              exact em_vret dX0_tellOffs_77 ⟨rfl, hk2, hv2, ho2⟩
            · have hmm : M2 39 m = (u m : Int) := by rw [hk2 39 (by omega)]; exact (hu m (by omega)).1
              have hum := (hu m (by omega)).2
              have hxm : M2 49 m = x m := by rw [hk2 49 (by omega)]; exact hx m (by omega)
              have hxb2 := hxb m (by omega)
              have hp1 := mbz (x := ((n + 1 : Nat) : Int)) (z := x m) (a := 8) (b := 8070721400000) (by omega) (by omega)
              have hp2 := mbz (x := ((n + 1 : Nat) : Int)) (z := D) (a := 8) (b := 823543) (by omega) (by omega)
              have hp3 : 0 < ((n + 1 : Nat) : Int) * D := Int.mul_pos (by omega) (by omega)
              refine ev_aload_n dX0_tellOffs_39 rfl ?_
              refine em_getR fX0_11.g dX0_tellOffs_40 lay_19 rfl ?_
              refine ev_aload_n dX0_tellOffs_43 rfl ?_
              refine em_getR fX0_27.g dX0_tellOffs_44 lay_19 rfl ?_
              refine ev_iload dX0_tellOffs_47 rfl ?_
              refine en_iald m dX0_tellOffs_49 lay_39 (by omega) (by omega) ?_
              refine en_frc (u m) dX0_tellOffs_50 (by omega) (by omega) ?_
              refine ev_iload_n dX0_tellOffs_51 rfl ?_
              refine ev_i2l dX0_tellOffs_52 (by omega) ?_
              refine ev_aload_n dX0_tellOffs_53 rfl ?_
              refine em_getR fX0_35.g dX0_tellOffs_54 lay_19 rfl ?_
              refine ev_iload dX0_tellOffs_57 rfl ?_
              refine en_lald m dX0_tellOffs_59 lay_49 (by omega) (by omega) ?_
              refine ev_lmul dX0_tellOffs_60 ?_
              refine ev_lload dX0_tellOffs_61 rfl ?_
              refine ev_lsub dX0_tellOffs_63 ?_
              refine ev_iload_n dX0_tellOffs_64 rfl ?_
              refine ev_i2l dX0_tellOffs_65 (by omega) ?_
              refine ev_lload_n dX0_tellOffs_66 rfl ?_
              refine ev_lmul dX0_tellOffs_67 ?_
              rw [hxm, show ((n + 1 : Nat) : Int) * x m - sm (n + 1) x = offA n x m from rfl]
              have hob : -9223372036854775808 < offA n x m ∧ offA n x m < 9223372036854775808 := by unfold offA; omega
              refine em_V2 (c_become l (by omega) (lay_frc (i := u m) (by omega)) hob (by omega)) mX0_86 dX0_tellOffs_68 (lay_frc (i := (u m)) (by omega)) ?_
              rintro r M3 ⟨rfl, rfl⟩
              refine ev_iinc dX0_tellOffs_71 rfl (by decide) ?_
              refine ev_ls [some (vR _), some (vI _), some (vL _), none, some (vL _), none, some (vI _)] rfl ?_
              refine ev_goto 33 dX0_tellOffs_74 ?_
              refine ihl2 (m + 1) _ (by omega) (by omega) (fun k hk => by rw [up2_row _ _ _ _ (by omega), up2_row _ _ _ _ (by omega)]; exact hk2 k hk) (fun i hi => ?_) (fun t ht => ?_)
              · by_cases e : i = m
                · subst e; exact ⟨by rw [up2_ne _ _ _ _ (Or.inr (by omega)), up2_same], by rw [up2_same]⟩
                · have hne : u i ≠ u m := fun q => e (hinj i m (by omega) (by omega) q)
                  rw [up2_row _ _ _ _ (show 21 + u i ≠ 21 + u m by omega), up2_row _ _ _ _ (show 21 + u i ≠ 21 + u m by omega)]; exact hv2 i (by omega)
              · have hne := ht m (by omega)
                rw [up2_row _ _ _ _ (show 21 + t ≠ 21 + u m by omega), up2_row _ _ _ _ (show 21 + t ≠ 21 + u m by omega)]; exact ho2 t (fun i hi => ht i (by omega))
        exact l2 (n + 2) 0 M (by omega) (by omega) (fun _ _ => rfl) (fun i hi => by omega) (fun t ht => rfl)
      · have hxm := hx m (by omega)
        refine ev_lload dX0_tellOffs_12 rfl ?_
        refine ev_aload_n dX0_tellOffs_14 rfl ?_
        refine em_getR fX0_35.g dX0_tellOffs_15 lay_19 rfl ?_
        refine ev_iload dX0_tellOffs_18 rfl ?_
        refine en_lald m dX0_tellOffs_20 lay_49 (by omega) (by omega) ?_
        refine ev_ladd dX0_tellOffs_21 ?_
        refine ev_lstore dX0_tellOffs_22 (by decide) ?_
        refine ev_ls [some (vR _), some (vI _), some (vL _), none, some (vL _), none, some (vI _)] rfl ?_
        refine ev_iinc dX0_tellOffs_24 rfl (by decide) ?_
        refine ev_ls [some (vR _), some (vI _), some (vL _), none, some (vL _), none, some (vI _)] rfl ?_
        refine ev_goto 6 dX0_tellOffs_27 ?_
        rw [hxm, smS rfl]
        exact ihl1 (m + 1) (by omega) (by omega)
  refine ev_lconst0 dX0_tellOffs_0 ?_
  refine ev_lstore dX0_tellOffs_1 (by decide) ?_
  refine ev_ls [some (vR _), some (vI _), some (vL _), none, some (vL _), none, none] rfl ?_
  refine ev_iconst dX0_tellOffs_3 ?_
  refine ev_istore dX0_tellOffs_4 (by decide) ?_
  refine ev_ls [some (vR _), some (vI _), some (vL _), none, some (vL _), none, some (vI _)] rfl ?_
  exact l1 (n + 2) 0 (by omega) (by omega)
set_option maxRecDepth 100000 in
set_option maxHeartbeats 4000000 in
theorem c_addClosed (l : Launch) {M : Mem} {n : Nat} {e : Nat → Nat → Prop} {w : Nat → Nat → Int} {u : Nat → Nat} {x : Nat → Int} {D : Int} (h7 : n ≤ 7) (hu : ∀ i, i < n + 1 → M 39 i = (u i : Int) ∧ u i < 8) (hDF : DF M e w u (n + 1)) (hx : ∀ i, i < n + 1 → M 49 i = x i) : Cm l yX0_addClosed cX0_addClosed 9 none 0 0 [vR 19, vI ((n + 1 : Nat) : Int), vL D] M (fun r M' => r = none ∧ M' = up2 (up2 M 19 10 (M 19 10 * D + clS e w (n + 1) x * M 19 11)) 19 11 (M 19 11 * D)) := by
  refine cmo [some (vR 19), some (vI ((n + 1 : Nat) : Int)), some (vL D), none, none, none, none, none, none] ?_
  have l1 : ∀ (m1 : Nat) (q : Nat), n + 1 < q + m1 → q ≤ n + 1 → Em l yX0_addClosed cX0_addClosed 9 none 0 0 (fun r M' => r = none ∧ M' = up2 (up2 M 19 10 (M 19 10 * D + clS e w (n + 1) x * M 19 11)) 19 11 (M 19 11 * D)) 6 [some (vR 19), some (vI ((n + 1 : Nat) : Int)), some (vL D), none, some (vL (sm q (fun q => sm q (fun p => cif (e p q) (w p q * (x p - x q)) 0)))), none, some (vI (q : Int)), none, none] [] M := by
    intro m1
    induction m1 with
    | zero => intro q h1 h2; omega
    | succ m1 ihl1 =>
      intro q h1 h2
      refine ev_iload dX0_addClosed_6 rfl ?_
      refine ev_iload_n dX0_addClosed_8 rfl ?_
      refine ev_icmp_ge 87 dX0_addClosed_9 (by omega) (by omega) (fun c1 => ?_) (fun c1 => ?_)
      · have et : n + 1 = q := by omega
        subst et
        have hcl : sm (n + 1) (fun q => sm q (fun p => cif (e p q) (w p q * (x p - x q)) 0)) = clS e w (n + 1) x := sm_pairs (fun p q => cif (e p q) (w p q * (x p - x q)) 0) (n + 1)
        rw [hcl]
        refine ev_aload_n dX0_addClosed_87 rfl ?_
        refine ev_aload_n dX0_addClosed_88 rfl ?_
        refine em_getL fX0_39.g dX0_addClosed_89 lay_19 rfl ?_
        refine ev_lload_n dX0_addClosed_92 rfl ?_
        refine ev_lmul dX0_addClosed_93 ?_
        refine ev_lload dX0_addClosed_94 rfl ?_
        refine ev_aload_n dX0_addClosed_96 rfl ?_
        refine em_getL fX0_43.g dX0_addClosed_97 lay_19 rfl ?_
        refine ev_lmul dX0_addClosed_100 ?_
        refine ev_ladd dX0_addClosed_101 ?_
        refine em_putL fX0_39 dX0_addClosed_102 lay_19 rfl ?_
        refine ev_aload_n dX0_addClosed_105 rfl ?_
        refine ev_dup_R dX0_addClosed_106 ?_
        refine em_getL fX0_43.g dX0_addClosed_107 lay_19 rfl ?_
        refine ev_lload_n dX0_addClosed_110 rfl ?_
        refine ev_lmul dX0_addClosed_111 ?_
        refine em_putL fX0_43 dX0_addClosed_112 lay_19 rfl ?_
        exact em_vret dX0_addClosed_115 ⟨rfl, by rw [up2_ne M _ _ _ (Or.inr (show 11 ≠ 10 by omega))]⟩
      · refine ev_iconst dX0_addClosed_12 ?_
        refine ev_istore dX0_addClosed_13 (by decide) ?_
        refine ev_ls [some (vR _), some (vI _), some (vL _), none, some (vL _), none, some (vI _), some (vI _), none] rfl ?_
        have l2 : ∀ (m2 : Nat) (p : Nat), q < p + m2 → p ≤ q → Em l yX0_addClosed cX0_addClosed 9 none 0 0 (fun r M' => r = none ∧ M' = up2 (up2 M 19 10 (M 19 10 * D + clS e w (n + 1) x * M 19 11)) 19 11 (M 19 11 * D)) 15 [some (vR 19), some (vI ((n + 1 : Nat) : Int)), some (vL D), none, some (vL (sm q (fun q => sm q (fun p => cif (e p q) (w p q * (x p - x q)) 0)) + sm p (fun p => cif (e p q) (w p q * (x p - x q)) 0))), none, some (vI (q : Int)), some (vI (p : Int)), none] [] M := by
          intro m2
          induction m2 with
          | zero => intro p h3 h4; omega
          | succ m2 ihl2 =>
            intro p h3 h4
            refine ev_iload dX0_addClosed_15 rfl ?_
            refine ev_iload dX0_addClosed_17 rfl ?_
            refine ev_icmp_ge 81 dX0_addClosed_19 (by omega) (by omega) (fun c2 => ?_) (fun c2 => ?_)
            · have et : q = p := by omega
              subst et
              refine ev_iinc dX0_addClosed_81 rfl (by decide) ?_
              refine ev_ls [some (vR _), some (vI _), some (vL _), none, some (vL _), none, some (vI _), some (vI _), none] rfl ?_
              refine ev_goto 6 dX0_addClosed_84 ?_
              refine ev_mask [true, true, true, true, true, true, true, false, false] ?_
              rw [smS (n := q) (f := (fun q => sm q (fun p => cif (e p q) (w p q * (x p - x q)) 0))) rfl]
              exact ihl1 (q + 1) (by omega) (by omega)
            · have hmp := (hu p (by omega)).1
              have hmq := (hu q (by omega)).1
              have hup := (hu p (by omega)).2
              have huq := (hu q (by omega)).2
              have hdf := hDF p q (by omega) (by omega)
              have hd32 : i32 (M (30 + u p) (u q)) := by omega
              have hxp := hx p (by omega)
              have hxq := hx q (by omega)
              refine ev_aload_n dX0_addClosed_22 rfl ?_
              refine em_getR fX0_20.g dX0_addClosed_23 lay_19 rfl ?_
              refine ev_aload_n dX0_addClosed_26 rfl ?_
              refine em_getR fX0_27.g dX0_addClosed_27 lay_19 rfl ?_
              refine ev_iload dX0_addClosed_30 rfl ?_
              refine en_iald p dX0_addClosed_32 lay_39 (by omega) (by omega) ?_
              refine en_dif (u p) dX0_addClosed_33 (by omega) (by omega) ?_
              refine ev_aload_n dX0_addClosed_34 rfl ?_
              refine em_getR fX0_27.g dX0_addClosed_35 lay_19 rfl ?_
              refine ev_iload dX0_addClosed_38 rfl ?_
              refine en_iald q dX0_addClosed_40 lay_39 (by omega) (by omega) ?_
              refine en_iald (u q) dX0_addClosed_41 (lay_dif (i := (u p)) (by omega)) (by omega) (by omega) ?_
              refine ev_istore dX0_addClosed_42 (by decide) ?_
              refine ev_ls [some (vR _), some (vI _), some (vL _), none, some (vL _), none, some (vI _), some (vI _), some (vI _)] rfl ?_
              refine ev_iload dX0_addClosed_44 rfl ?_
              refine ev_ldc (-1000000002) kX0_90 dX0_addClosed_46 (by decide) ?_
              refine ev_icmp_eq 75 dX0_addClosed_48 (by omega) (by omega) (fun c48 => ?_) (fun c48 => ?_)
              · refine ev_iinc dX0_addClosed_75 rfl (by decide) ?_
                refine ev_ls [some (vR _), some (vI _), some (vL _), none, some (vL _), none, some (vI _), some (vI _), some (vI _)] rfl ?_
                refine ev_goto 15 dX0_addClosed_78 ?_
                refine ev_mask [true, true, true, true, true, true, true, true, false] ?_
                have hgo := ihl2 (p + 1) (by omega) (by omega)
                rw [show sm (p + 1) (fun p => cif (e p q) (w p q * (x p - x q)) 0) = sm p (fun p => cif (e p q) (w p q * (x p - x q)) 0) from by show _ + cif (e p q) (w p q * (x p - x q)) 0 = _; rw [cif_neg (show ¬ e p q by rcases hdf with h | h; omega; exact h.1), Int.add_zero]] at hgo
                exact hgo
              · have hed : e p q ∧ M (30 + u p) (u q) = w p q := by rcases hdf with h | h; exact ⟨h.1, h.2.1⟩; omega
                refine ev_lload dX0_addClosed_51 rfl ?_
                refine ev_iload dX0_addClosed_53 rfl ?_
                refine ev_i2l dX0_addClosed_55 (by omega) ?_
                refine ev_aload_n dX0_addClosed_56 rfl ?_
                refine em_getR fX0_35.g dX0_addClosed_57 lay_19 rfl ?_
                refine ev_iload dX0_addClosed_60 rfl ?_
                refine en_lald p dX0_addClosed_62 lay_49 (by omega) (by omega) ?_
                refine ev_aload_n dX0_addClosed_63 rfl ?_
                refine em_getR fX0_35.g dX0_addClosed_64 lay_19 rfl ?_
                refine ev_iload dX0_addClosed_67 rfl ?_
                refine en_lald q dX0_addClosed_69 lay_49 (by omega) (by omega) ?_
                refine ev_lsub dX0_addClosed_70 ?_
                refine ev_lmul dX0_addClosed_71 ?_
                refine ev_ladd dX0_addClosed_72 ?_
                refine ev_lstore dX0_addClosed_73 (by decide) ?_
                refine ev_ls [some (vR _), some (vI _), some (vL _), none, some (vL _), none, some (vI _), some (vI _), some (vI _)] rfl ?_
                refine ev_iinc dX0_addClosed_75 rfl (by decide) ?_
                refine ev_ls [some (vR _), some (vI _), some (vL _), none, some (vL _), none, some (vI _), some (vI _), some (vI _)] rfl ?_
                refine ev_goto 15 dX0_addClosed_78 ?_
                refine ev_mask [true, true, true, true, true, true, true, true, false] ?_
                rw [hxp, hxq, hed.2, Int.add_assoc, smS (n := p) (f := fun p => cif (e p q) (w p q * (x p - x q)) 0) (cif_pos hed.1)]
                exact ihl2 (p + 1) (by omega) (by omega)
        have hgo := l2 (q + 1) 0 (by omega) (by omega)
        rw [show sm 0 (fun p => cif (e p q) (w p q * (x p - x q)) 0) = 0 from rfl, Int.add_zero] at hgo
        exact hgo
  refine ev_lconst0 dX0_addClosed_0 ?_
  refine ev_lstore dX0_addClosed_1 (by decide) ?_
  refine ev_ls [some (vR _), some (vI _), some (vL _), none, some (vL _), none, none, none, none] rfl ?_
  refine ev_iconst dX0_addClosed_3 ?_
  refine ev_istore dX0_addClosed_4 (by decide) ?_
  refine ev_ls [some (vR _), some (vI _), some (vL _), none, some (vL _), none, some (vI _), none, none] rfl ?_
  exact l1 (n + 2) 0 (by omega) (by omega)
set_option maxRecDepth 100000 in
set_option maxHeartbeats 4000000 in
theorem c_startAnew (l : Launch) {M : Mem} : Cm l yX0_startAnew cX0_startAnew 2 none 2 58 [vR 19] M (fun r M' => r = none ∧ (∀ k, k ≠ 19 → k ≠ 38 → (k < 21 ∨ 29 ≤ k) → M' k = M k) ∧ (M' 19 1 = 0 ∧ M' 19 2 = 0 ∧ M' 19 3 = 0 ∧ M' 19 4 = 0 ∧ M' 19 10 = 0 ∧ M' 19 11 = 1) ∧ ∀ t, t < 8 → M' 38 t = (t : Int) ∧ M' (21 + t) 0 = 0 ∧ M' (21 + t) 1 = 1) := by
  refine cmo [some (vR 19), none] ?_
  have lp : ∀ (m1 : Nat) (t : Nat) (M1 : Mem), 8 < t + m1 → t ≤ 8 → (∀ k, k ≠ 19 → k ≠ 38 → (k < 21 ∨ 29 ≤ k) → M1 k = M k) → (M1 19 1 = 0 ∧ M1 19 2 = 0 ∧ M1 19 3 = 0 ∧ M1 19 4 = 0 ∧ M1 19 10 = 0 ∧ M1 19 11 = 1) → (∀ q, q < t → M1 38 q = (q : Int) ∧ M1 (21 + q) 0 = 0 ∧ M1 (21 + q) 1 = 1) → Em l yX0_startAnew cX0_startAnew 2 none 2 58 (fun r M' => r = none ∧ (∀ k, k ≠ 19 → k ≠ 38 → (k < 21 ∨ 29 ≤ k) → M' k = M k) ∧ (M' 19 1 = 0 ∧ M' 19 2 = 0 ∧ M' 19 3 = 0 ∧ M' 19 4 = 0 ∧ M' 19 10 = 0 ∧ M' 19 11 = 1) ∧ ∀ t, t < 8 → M' 38 t = (t : Int) ∧ M' (21 + t) 0 = 0 ∧ M' (21 + t) 1 = 1) 32 [some (vR 19), some (vI (t : Int))] [] M1 := by
    intro m1
    induction m1 with
    | zero => intro t M1 h1 h2 hk1 hf1 hv1; omega
    | succ m1 ihlp =>
      intro t M1 h1 h2 hk1 hf1 hv1
      refine ev_iload_n dX0_startAnew_32 rfl ?_
      refine ev_bipush dX0_startAnew_33 (by decide) ?_
      refine ev_icmp_ge 62 dX0_startAnew_35 (by omega) (by omega) (fun c1 => ?_) (fun c1 => ?_)
      · have et : 8 = t := by omega
        subst et
        exact em_vret dX0_startAnew_62 ⟨rfl, hk1, hf1, hv1⟩
      · refine ev_aload_n dX0_startAnew_38 rfl ?_
        refine em_getR fX0_23.g dX0_startAnew_39 lay_19 rfl ?_
        refine ev_iload_n dX0_startAnew_42 rfl ?_
        refine ev_iload_n dX0_startAnew_43 rfl ?_
        refine en_iast t dX0_startAnew_44 lay_38 (by omega) (by omega) ?_
        refine ev_aload_n dX0_startAnew_45 rfl ?_
        refine em_getR fX0_11.g dX0_startAnew_46 lay_19 rfl ?_
        refine ev_iload_n dX0_startAnew_49 rfl ?_
        refine en_frc t dX0_startAnew_50 (by omega) (by omega) ?_
        refine ev_lconst0 dX0_startAnew_51 ?_
        refine ev_lconst1 dX0_startAnew_52 ?_
        refine em_V2 (c_become l (by omega) (lay_frc (i := t) (by omega)) (by omega) (by omega)) mX0_86 dX0_startAnew_53 (lay_frc (i := t) (by omega)) ?_
        rintro r M3 ⟨rfl, rfl⟩
        refine ev_iinc dX0_startAnew_56 rfl (by decide) ?_
        refine ev_ls [some (vR _), some (vI _)] rfl ?_
        refine ev_goto 32 dX0_startAnew_59 ?_
        refine ihlp (t + 1) _ (by omega) (by omega) (fun k a b c => by rw [up2_row _ _ _ _ (by omega), up2_row _ _ _ _ (by omega), up2_row _ _ _ _ b]; exact hk1 k a b c) (by rw [up2_row _ _ _ _ (show 19 ≠ 21 + t by omega), up2_row _ _ _ _ (show 19 ≠ 21 + t by omega), up2_row _ _ _ _ (show 19 ≠ 38 by omega)]; exact hf1) (fun q hq => ?_)
        by_cases e : q = t
        · subst e; exact ⟨by rw [up2_row _ _ _ _ (by omega), up2_row _ _ _ _ (by omega), up2_same], by rw [up2_ne _ _ _ _ (Or.inr (by omega)), up2_same]; rfl, by rw [up2_same]; rfl⟩
        · rw [up2_row _ _ _ _ (show 38 ≠ 21 + t by omega), up2_row _ _ _ _ (show 38 ≠ 21 + t by omega), up2_ne _ _ _ _ (Or.inr e), up2_row _ _ _ _ (show 21 + q ≠ 21 + t by omega), up2_row _ _ _ _ (show 21 + q ≠ 21 + t by omega), up2_row _ _ _ _ (show 21 + q ≠ 38 by omega)]; exact hv1 q (by omega)
  refine ev_aload_n dX0_startAnew_0 rfl ?_
  refine ev_iconst dX0_startAnew_1 ?_
  refine em_putI fX0_76 dX0_startAnew_2 lay_19 rfl ?_
  refine ev_aload_n dX0_startAnew_5 rfl ?_
  refine ev_iconst dX0_startAnew_6 ?_
  refine em_putI fX0_80 dX0_startAnew_7 lay_19 rfl ?_
  refine ev_aload_n dX0_startAnew_10 rfl ?_
  refine ev_iconst dX0_startAnew_11 ?_
  refine em_putI fX0_83 dX0_startAnew_12 lay_19 rfl ?_
  refine ev_aload_n dX0_startAnew_15 rfl ?_
  refine ev_lconst0 dX0_startAnew_16 ?_
  refine em_putL fX0_67 dX0_startAnew_17 lay_19 rfl ?_
  refine ev_aload_n dX0_startAnew_20 rfl ?_
  refine ev_lconst0 dX0_startAnew_21 ?_
  refine em_putL fX0_39 dX0_startAnew_22 lay_19 rfl ?_
  refine ev_aload_n dX0_startAnew_25 rfl ?_
  refine ev_lconst1 dX0_startAnew_26 ?_
  refine em_putL fX0_43 dX0_startAnew_27 lay_19 rfl ?_
  refine ev_iconst dX0_startAnew_30 ?_
  refine ev_istore_n dX0_startAnew_31 (by decide) ?_
  refine ev_ls [some (vR _), some (vI _)] rfl ?_
  exact lp 9 0 _ (by omega) (by omega) (fun k a b c => by simp only [up2_row _ _ _ _ a]) (by simp [up2_at]) (fun q hq => by omega)
set_option maxRecDepth 100000 in
set_option maxHeartbeats 4000000 in
theorem c_takeNo (l : Launch) {M : Mem} {a b : Nat} (ha : a < 8) (hb : b < 8) : Cm l yX0_takeDifference cX0_takeDifference 4 none 2 46 [vR 19, vI (a : Int), vI (b : Int), vI (-1000000002)] M (rV (up2 M (30 + a) b (-1000000002))) := by
  refine cmo [some (vR 19), some (vI (a : Int)), some (vI (b : Int)), some (vI (-1000000002))] ?_
  refine ev_aload_n dX0_takeDifference_0 rfl ?_
  refine em_getR fX0_20.g dX0_takeDifference_1 lay_19 rfl ?_
  refine ev_iload_n dX0_takeDifference_4 rfl ?_
  refine en_dif a dX0_takeDifference_5 (by omega) (by omega) ?_
  refine ev_iload_n dX0_takeDifference_6 rfl ?_
  refine ev_iload_n dX0_takeDifference_7 rfl ?_
  refine en_iast b dX0_takeDifference_8 (lay_dif (i := a) (by omega)) (by omega) (by omega) ?_
  refine ev_iload_n dX0_takeDifference_9 rfl ?_
  refine ev_ldc (-1000000002) kX0_90 dX0_takeDifference_10 (by decide) ?_
  refine ev_icmp_eq 55 dX0_takeDifference_12 (by omega) (by omega) (fun c12 => ?_) (fun c12 => ?_)
  · exact em_vret dX0_takeDifference_55 ⟨rfl, rfl⟩
  · omega
set_option maxRecDepth 100000 in
set_option maxHeartbeats 4000000 in
theorem c_take (l : Launch) {M : Mem} {a b : Nat} {d : Int} {f : Nat → Nat} (ha : a < 8) (hb : b < 8) (hd : -200000 ≤ d ∧ d ≤ 200000) (hf : ∀ t, t < 8 → M 38 t = (f t : Int) ∧ f t < 8) : Cm l yX0_takeDifference cX0_takeDifference 4 none 2 46 [vR 19, vI (a : Int), vI (b : Int), vI d] M (fun r M' => r = none ∧ (∀ k, k ≠ 19 → k ≠ 38 → k ≠ 30 + a → M' k = M k) ∧ (∀ q, M' (30 + a) q = if q = b then d else M (30 + a) q) ∧ M' 19 1 = M 19 1 + 1 ∧ M' 19 4 = M 19 4 + d * d ∧ (∀ q, q ≠ 1 → q ≠ 4 → M' 19 q = M 19 q) ∧ ∀ t, t < 8 → M' 38 t = ((rel f (f a) (f b) t : Nat) : Int)) := by
  refine cmo [some (vR 19), some (vI (a : Int)), some (vI (b : Int)), some (vI d)] ?_
  have hfa := hf a ha
  have hfb := hf b hb
  refine ev_aload_n dX0_takeDifference_0 rfl ?_
  refine em_getR fX0_20.g dX0_takeDifference_1 lay_19 rfl ?_
  refine ev_iload_n dX0_takeDifference_4 rfl ?_
  refine en_dif a dX0_takeDifference_5 (by omega) (by omega) ?_
  refine ev_iload_n dX0_takeDifference_6 rfl ?_
  refine ev_iload_n dX0_takeDifference_7 rfl ?_
  refine en_iast b dX0_takeDifference_8 (lay_dif (i := a) (by omega)) (by omega) (by omega) ?_
  refine ev_iload_n dX0_takeDifference_9 rfl ?_
  refine ev_ldc (-1000000002) kX0_90 dX0_takeDifference_10 (by decide) ?_
  refine ev_icmp_eq 55 dX0_takeDifference_12 (by omega) (by omega) (fun c12 => ?_) (fun c12 => ?_)
  · omega
  · refine ev_aload_n dX0_takeDifference_15 rfl ?_
    refine ev_dup_R dX0_takeDifference_16 ?_
    refine em_getI fX0_76.g dX0_takeDifference_17 lay_19 rfl ?_
    refine ev_iconst dX0_takeDifference_20 ?_
    refine ev_iadd dX0_takeDifference_21 ?_
    refine em_putI fX0_76 dX0_takeDifference_22 lay_19 rfl ?_
    refine ev_aload_n dX0_takeDifference_25 rfl ?_
    refine ev_dup_R dX0_takeDifference_26 ?_
    refine em_getL fX0_67.g dX0_takeDifference_27 lay_19 rfl ?_
    refine ev_iload_n dX0_takeDifference_30 rfl ?_
    refine ev_i2l dX0_takeDifference_31 (by omega) ?_
    refine ev_iload_n dX0_takeDifference_32 rfl ?_
    refine ev_i2l dX0_takeDifference_33 (by omega) ?_
    refine ev_lmul dX0_takeDifference_34 ?_
    refine ev_ladd dX0_takeDifference_35 ?_
    refine em_putL fX0_67 dX0_takeDifference_36 lay_19 rfl ?_
    refine ev_aload_n dX0_takeDifference_39 rfl ?_
    refine ev_aload_n dX0_takeDifference_40 rfl ?_
    refine em_getR fX0_23.g dX0_takeDifference_41 lay_19 rfl ?_
    refine ev_iload_n dX0_takeDifference_44 rfl ?_
    refine en_iald a dX0_takeDifference_45 lay_38 (by omega) (by omega) ?_
    refine ev_aload_n dX0_takeDifference_46 rfl ?_
    refine em_getR fX0_23.g dX0_takeDifference_47 lay_19 rfl ?_
    refine ev_iload_n dX0_takeDifference_50 rfl ?_
    refine en_iald b dX0_takeDifference_51 lay_38 (by omega) (by omega) ?_
    rw [show up2 (up2 (up2 M (30 + a) b d) 19 1 (up2 M (30 + a) b d 19 1 + 1)) 19 4 (up2 (up2 M (30 + a) b d) 19 1 (up2 M (30 + a) b d 19 1 + 1) 19 4 + d * d) 38 a = (f a : Int) by rw [up2_row _ _ _ _ (by omega), up2_row _ _ _ _ (by omega), up2_row _ _ _ _ (by omega)]; exact hfa.1, show up2 (up2 (up2 M (30 + a) b d) 19 1 (up2 M (30 + a) b d 19 1 + 1)) 19 4 (up2 (up2 M (30 + a) b d) 19 1 (up2 M (30 + a) b d 19 1 + 1) 19 4 + d * d) 38 b = (f b : Int) by rw [up2_row _ _ _ _ (by omega), up2_row _ _ _ _ (by omega), up2_row _ _ _ _ (by omega)]; exact hfb.1]
    refine em_V2 (c_joinNets l (f := f) (x := f a) (z := f b) (fun t ht => by rw [up2_row _ _ _ _ (by omega), up2_row _ _ _ _ (by omega), up2_row _ _ _ _ (by omega)]; exact hf t ht) (by omega) (by omega)) mX0_91 dX0_takeDifference_52 lay_19 ?_
    rintro r M1 ⟨rfl, k52, v52⟩
    refine em_vret dX0_takeDifference_55 ⟨rfl, fun k h1 h2 h3 => by rw [k52 k h2, up2_row _ _ _ _ h1, up2_row _ _ _ _ h1, up2_row _ _ _ _ h3], fun q => ?_, ?_, ?_, fun q h1 h2 => ?_, v52⟩
    · rw [k52 _ (by omega), up2_row _ _ _ _ (by omega), up2_row _ _ _ _ (by omega), up2_at]; by_cases e : q = b; (rw [if_pos ⟨rfl, e⟩, if_pos e]); (rw [if_neg (by omega), if_neg e])
    · rw [k52 _ (by omega), up2_ne _ _ _ _ (Or.inr (by omega)), up2_same, up2_row _ _ _ _ (by omega)]
    · rw [k52 _ (by omega), up2_same, up2_ne _ _ _ _ (Or.inr (by omega)), up2_row _ _ _ _ (by omega)]
    · rw [k52 _ (by omega), up2_ne _ _ _ _ (Or.inr h2), up2_ne _ _ _ _ (Or.inr h1), up2_row _ _ _ _ (by omega)]
set_option maxRecDepth 100000 in
set_option maxHeartbeats 4000000 in
theorem c_settleOne (l : Launch) {M : Mem} : Cm l yX0_settleNet cX0_settleNet 5 none 3 84 [vR 19, vI 1] M (rV (up2 M 19 3 (M 19 3 + 1))) := by
  refine cmo [some (vR 19), some (vI 1), none, none, none] ?_
  refine ev_iload_n dX0_settleNet_0 rfl ?_
  refine ev_iconst dX0_settleNet_1 ?_
  refine ev_icmp_ge 16 dX0_settleNet_2 (by omega) (by omega) (fun c2 => ?_) (fun c2 => ?_)
  · omega
  · refine ev_aload_n dX0_settleNet_5 rfl ?_
    refine ev_dup_R dX0_settleNet_6 ?_
    refine em_getI fX0_83.g dX0_settleNet_7 lay_19 rfl ?_
    refine ev_iload_n dX0_settleNet_10 rfl ?_
    refine ev_iadd dX0_settleNet_11 ?_
    refine em_putI fX0_83 dX0_settleNet_12 lay_19 rfl ?_
    exact em_vret dX0_settleNet_15 ⟨rfl, rfl⟩
set_option maxRecDepth 100000 in
set_option maxHeartbeats 4000000 in
theorem c_settleNet (l : Launch) {M : Mem} {n : Nat} {e : Nat → Nat → Prop} {w : Nat → Nat → Int} {u : Nat → Nat} (h1n : 1 ≤ n) (h7 : n ≤ 7) (hC : Cn e (n + 1)) (hu : ∀ i, i < n + 1 → M 39 i = (u i : Int) ∧ u i < 8) (hinj : ∀ i j, i < n + 1 → j < n + 1 → u i = u j → i = j) (hDF : DF M e w u (n + 1)) : Cm l yX0_settleNet cX0_settleNet 5 none 3 84 [vR 19, vI ((n + 1 : Nat) : Int)] M (fun r M' => r = none ∧ (∀ k, k ≠ 19 → (k < 21 ∨ 29 ≤ k) → (k < 41 ∨ 50 ≤ k) → M' k = M k) ∧ (∀ f, f ≠ 2 → f ≠ 10 → f ≠ 11 → M' 19 f = M 19 f) ∧ M' 19 2 = M 19 2 + 1 ∧ M' 19 10 = M 19 10 * Do e n 0 + clS e w (n + 1) (Xo e w n 0) * M 19 11 ∧ M' 19 11 = M 19 11 * Do e n 0 ∧ (∀ i, i < n + 1 → M' (21 + u i) 0 = (offA n (Xo e w n 0) i).tdiv (Int.gcd (offA n (Xo e w n 0) i) (((n + 1 : Nat) : Int) * Do e n 0) : Int) ∧ M' (21 + u i) 1 = (((n + 1 : Nat) : Int) * Do e n 0).tdiv (Int.gcd (offA n (Xo e w n 0) i) (((n + 1 : Nat) : Int) * Do e n 0) : Int)) ∧ ∀ t, t < 8 → (∀ i, i < n + 1 → u i ≠ t) → M' (21 + t) = M (21 + t)) := by
  refine cmo [some (vR 19), some (vI ((n + 1 : Nat) : Int)), none, none, none] ?_
  have hA : MM n (Ao e n 0) := La_MM hC h7 (by omega)
  have hw : ∀ a b, a < b → b < n + 1 → e a b → -200000 ≤ w a b ∧ w a b ≤ 200000 := fun a b h1 h2 h3 => by rcases hDF a b h1 h2 with h | h; exact h.2.2; exact absurd h3 h.1
  have hbB : ∀ q, q < n → -1400000 ≤ bo e w n 0 q ∧ bo e w n 0 q ≤ 1400000 := fun q hq => bb_bd (by omega) hw (by omega)
  have hDp : 0 < Do e n 0 := D_pos hA (Nat.le_refl n)
  have hDl : Do e n 0 ≤ 7 ^ n := D_le hA n (Nat.le_refl n)
  have hD7 := p7' h7
  have hg7 := g7 h7
  have hXb : ∀ i, i < n + 1 → -8070721400000 ≤ Xo e w n 0 i ∧ Xo e w n 0 i ≤ 8070721400000 := fun i hi => by
    rcases gr_cases (o := 0) (by omega) hi with q | ⟨r, hr, q⟩
    · rw [q, Xo_gr]; omega
    · have := Gb_bd hA h7 hbB n (Nat.le_refl _) r hr; rw [q, Xo_at (by omega) hr]; omega
  refine ev_iload_n dX0_settleNet_0 rfl ?_
  refine ev_iconst dX0_settleNet_1 ?_
  refine ev_icmp_ge 16 dX0_settleNet_2 (by omega) (by omega) (fun c2 => ?_) (fun c2 => ?_)
  · refine ev_aload_n dX0_settleNet_16 rfl ?_
    refine ev_dup_R dX0_settleNet_17 ?_
    refine em_getI fX0_80.g dX0_settleNet_18 lay_19 rfl ?_
    refine ev_iconst dX0_settleNet_21 ?_
    refine ev_iadd dX0_settleNet_22 ?_
    refine em_putI fX0_80 dX0_settleNet_23 lay_19 rfl ?_
    refine ev_aload_n dX0_settleNet_26 rfl ?_
    refine ev_iload_n dX0_settleNet_27 rfl ?_
    refine em_V1 (c_fillRows l (n := n) (e := e) (w := w) (u := u) h7 (fun i hi => by rw [up2_row _ _ _ _ (by omega)]; exact hu i hi) (fun p q h1 h2 => by rw [up2_row _ _ _ _ (by have := (hu p (by omega)).2; omega)]; exact hDF p q h1 h2)) mX0_101 dX0_settleNet_28 lay_19 ?_
    rintro r M1 ⟨rfl, k28, v28⟩
    refine ev_aload_n dX0_settleNet_31 rfl ?_
    refine ev_iload_n dX0_settleNet_32 rfl ?_
    refine ev_iconst dX0_settleNet_33 ?_
    refine ev_isub dX0_settleNet_34 ?_
    rw [show ((n + 1 : Nat) : Int) - 1 = (n : Int) by omega]
    refine em_V1 (c_solveRows l (n := n) (A := Ao e n 0) (b := bo e w n 0) hA h7 hbB (fun r c hr hc => by rw [v28 r c hr hc]; unfold cv; by_cases z : c = n; (rw [if_pos z, if_neg (by omega)]; rfl); (rw [if_neg z, if_pos (by omega)]; rfl))) mX0_104 dX0_settleNet_35 lay_19 ?_
    rintro r M2 ⟨rfl, k35, v35⟩
    rw [show dt n (Ao e n 0) = Do e n 0 from rfl]
    refine ev_lstore_n dX0_settleNet_38 (by decide) ?_
    refine ev_ls [some (vR _), some (vI _), some (vL _), none, none] rfl ?_
    refine ev_lload_n dX0_settleNet_39 rfl ?_
    refine ev_lconst0 dX0_settleNet_40 ?_
    refine ev_lcmp_ne 46 dX0_settleNet_41 dX0_settleNet_42 (by omega) (by omega) (fun c41 => ?_) (fun c41 => ?_)
    · refine ev_iconst dX0_settleNet_46 ?_
      refine ev_istore dX0_settleNet_47 (by decide) ?_
      refine ev_ls [some (vR _), some (vI _), some (vL _), none, some (vI _)] rfl ?_
      have kk2 : ∀ k, k ≠ 19 → (k < 41 ∨ 49 ≤ k) → M2 k = M k := fun k h1 h2 => by rw [k35 k h2, k28 k h2, up2_row _ _ _ _ h1]
      have f2 : M2 19 = up2 M 19 2 (M 19 2 + 1) 19 := by rw [k35 19 (by omega), k28 19 (by omega)]
      have lp : ∀ (m1 : Nat) (m : Nat) (M3 : Mem), n < m + m1 → m ≤ n → (∀ k, k ≠ 49 → M3 k = M2 k) → (∀ i, i < m → M3 49 i = Gs n (Ao e n 0) (bo e w n 0) i) → Em l yX0_settleNet cX0_settleNet 5 none 3 84 (fun r M' => r = none ∧ (∀ k, k ≠ 19 → (k < 21 ∨ 29 ≤ k) → (k < 41 ∨ 50 ≤ k) → M' k = M k) ∧ (∀ f, f ≠ 2 → f ≠ 10 → f ≠ 11 → M' 19 f = M 19 f) ∧ M' 19 2 = M 19 2 + 1 ∧ M' 19 10 = M 19 10 * Do e n 0 + clS e w (n + 1) (Xo e w n 0) * M 19 11 ∧ M' 19 11 = M 19 11 * Do e n 0 ∧ (∀ i, i < n + 1 → M' (21 + u i) 0 = (offA n (Xo e w n 0) i).tdiv (Int.gcd (offA n (Xo e w n 0) i) (((n + 1 : Nat) : Int) * Do e n 0) : Int) ∧ M' (21 + u i) 1 = (((n + 1 : Nat) : Int) * Do e n 0).tdiv (Int.gcd (offA n (Xo e w n 0) i) (((n + 1 : Nat) : Int) * Do e n 0) : Int)) ∧ ∀ t, t < 8 → (∀ i, i < n + 1 → u i ≠ t) → M' (21 + t) = M (21 + t)) 49 [some (vR 19), some (vI ((n + 1 : Nat) : Int)), some (vL (Do e n 0)), none, some (vI (m : Int))] [] M3 := by
        intro m1
        induction m1 with
        | zero => intro m M3 h1 h2 hk3 hx3; omega
        | succ m1 ihlp =>
          intro m M3 h1 h2 hk3 hx3
          refine ev_iload dX0_settleNet_49 rfl ?_
          refine ev_iload_n dX0_settleNet_51 rfl ?_
          refine ev_iconst dX0_settleNet_52 ?_
          refine ev_isub dX0_settleNet_53 ?_
          rw [show ((n + 1 : Nat) : Int) - 1 = (n : Int) by omega]
          refine ev_icmp_ge 81 dX0_settleNet_54 (by omega) (by omega) (fun c1 => ?_) (fun c1 => ?_)
          · have et : n = m := by omega
            subst et
            refine ev_aload_n dX0_settleNet_81 rfl ?_
            refine em_getR fX0_35.g dX0_settleNet_82 lay_19 rfl ?_
            refine ev_iload_n dX0_settleNet_85 rfl ?_
            refine ev_iconst dX0_settleNet_86 ?_
            refine ev_isub dX0_settleNet_87 ?_
            rw [show ((n + 1 : Nat) : Int) - 1 = (n : Int) by omega]
            refine ev_lconst0 dX0_settleNet_88 ?_
            refine en_last n dX0_settleNet_89 lay_49 (by omega) (by omega) ?_
            refine ev_aload_n dX0_settleNet_90 rfl ?_
            refine ev_iload_n dX0_settleNet_91 rfl ?_
            refine ev_lload_n dX0_settleNet_92 rfl ?_
            refine ev_mem (fun M4 hM4 => ?_)
            have kk4 : ∀ k, k ≠ 19 → (k < 41 ∨ 50 ≤ k) → M4 k = M k := fun k h1 h2 => by rw [hM4, up2_row _ _ _ _ (by omega), hk3 k (by omega), kk2 k h1 (by omega)]
            have f4 : M4 19 = up2 M 19 2 (M 19 2 + 1) 19 := by rw [hM4, up2_row _ _ _ _ (by omega), hk3 19 (by omega), f2]
            have x4 : ∀ i, i < n + 1 → M4 49 i = Xo e w n 0 i := fun i hi => by rw [hM4, up2_at]; by_cases z : i = n; (rw [if_pos ⟨rfl, z⟩, z]; exact (Xo_gr e w n 0).symm); (rw [if_neg (by omega), hx3 i (by omega)]; exact (Xo_at (by omega) (by omega)).symm)
            clear hM4
            refine em_V2 (c_tellOffs l (n := n) (u := u) (x := Xo e w n 0) h7 (fun i hi => by rw [kk4 39 (by omega) (by omega)]; exact hu i hi) hinj x4 hXb (by omega)) mX0_108 dX0_settleNet_93 lay_19 ?_
            rintro r M5 ⟨rfl, k93, v93, o93⟩
            refine ev_aload_n dX0_settleNet_96 rfl ?_
            refine ev_iload_n dX0_settleNet_97 rfl ?_
            refine ev_lload_n dX0_settleNet_98 rfl ?_
            refine em_V2 (c_addClosed l (n := n) (e := e) (w := w) (u := u) (x := Xo e w n 0) h7 (fun i hi => by rw [k93 39 (by omega), kk4 39 (by omega) (by omega)]; exact hu i hi) (fun p q h1 h2 => by have := (hu p (by omega)).2; rw [k93 _ (by omega), kk4 _ (by omega) (by omega)]; exact hDF p q h1 h2) (fun i hi => by rw [k93 49 (by omega)]; exact x4 i hi)) mX0_112 dX0_settleNet_99 lay_19 ?_
            rintro r M6 ⟨rfl, rfl⟩
            have f5 : M5 19 = up2 M 19 2 (M 19 2 + 1) 19 := by rw [k93 19 (by omega), f4]
            refine em_vret dX0_settleNet_102 ⟨rfl, fun k h1 h2 h3 => by rw [up2_row _ _ _ _ h1, up2_row _ _ _ _ h1, k93 k h2, kk4 k h1 h3], fun f h1 h2 h3 => by rw [up2_ne _ _ _ _ (Or.inr h3), up2_ne _ _ _ _ (Or.inr h2), f5, up2_ne _ _ _ _ (Or.inr h1)], ?_, ?_, ?_, ?_, ?_⟩
            · rw [up2_ne _ _ _ _ (Or.inr (by omega)), up2_ne _ _ _ _ (Or.inr (by omega)), f5, up2_same]
            · rw [up2_ne _ _ _ _ (Or.inr (by omega)), up2_same, f5, up2_ne _ _ _ _ (Or.inr (by omega)), up2_ne _ _ _ _ (Or.inr (by omega))]
            · rw [up2_same, f5, up2_ne _ _ _ _ (Or.inr (by omega))]
            · intro i hi; rw [up2_row _ _ _ _ (by omega), up2_row _ _ _ _ (by omega)]; exact v93 i hi
            · intro t h8 ht; rw [up2_row _ _ _ _ (by omega), up2_row _ _ _ _ (by omega), o93 t ht, kk4 _ (by omega) (by omega)]
          · refine ev_aload_n dX0_settleNet_57 rfl ?_
            refine em_getR fX0_35.g dX0_settleNet_58 lay_19 rfl ?_
            refine ev_iload dX0_settleNet_61 rfl ?_
            refine ev_aload_n dX0_settleNet_63 rfl ?_
            refine em_getR fX0_32.g dX0_settleNet_64 lay_19 rfl ?_
            refine ev_iload dX0_settleNet_67 rfl ?_
            refine en_row m dX0_settleNet_69 (by omega) (by omega) ?_
            refine ev_iload_n dX0_settleNet_70 rfl ?_
            refine ev_iconst dX0_settleNet_71 ?_
            refine ev_isub dX0_settleNet_72 ?_
            rw [show ((n + 1 : Nat) : Int) - 1 = (n : Int) by omega]
            refine en_lald n dX0_settleNet_73 (lay_row (i := m) (by omega)) (by omega) (by omega) ?_
            refine en_last m dX0_settleNet_74 lay_49 (by omega) (by omega) ?_
            refine ev_iinc dX0_settleNet_75 rfl (by decide) ?_
            refine ev_ls [some (vR _), some (vI _), some (vL _), none, some (vI _)] rfl ?_
            refine ev_goto 49 dX0_settleNet_78 ?_
            exact ihlp (m + 1) _ (by omega) (by omega) (fun k hk => by rw [up2_row _ _ _ _ hk]; exact hk3 k hk) (fun i hi => by rw [up2_at]; by_cases z : i = m; (subst z; rw [if_pos ⟨rfl, rfl⟩, hk3 (41 + i) (by omega)]; exact v35 i (by omega)); (rw [if_neg (by omega)]; exact hx3 i (by omega)))
      exact lp (n + 1) 0 M2 (by omega) (by omega) (fun _ _ => rfl) (fun i hi => by omega)
    · omega
  · refine ev_aload_n dX0_settleNet_5 rfl ?_
    refine ev_dup_R dX0_settleNet_6 ?_
    refine em_getI fX0_83.g dX0_settleNet_7 lay_19 rfl ?_
    refine ev_iload_n dX0_settleNet_10 rfl ?_
    refine ev_iadd dX0_settleNet_11 ?_
    refine em_putI fX0_83 dX0_settleNet_12 lay_19 rfl ?_
    omega
