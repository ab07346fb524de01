/-- the differences of a net's members, as they stand in the table -/
def DF (M : Mem) (e : Nat → Nat → Prop) (w : Nat → Nat → Int) (u : Nat → Nat) (n : Nat) : Prop := ∀ p q, p < q → q < n → (e p q ∧ M (30 + u p) (u q) = w p q ∧ -200000 ≤ w p q ∧ w p q ≤ 200000) ∨ (¬ e p q ∧ M (30 + u p) (u q) = -1000000002)
set_option maxRecDepth 100000 in
set_option maxHeartbeats 4000000 in
theorem c_solveRows (l : Launch) {M : Mem} {n : Nat} {A : Nat → Nat → Int} {b : Nat → Int} (hA : MM n A) (h7 : n ≤ 7) (hb : ∀ r, r < n → -1400000 ≤ b r ∧ b r ≤ 1400000) (hv : ∀ r c, r < n → c ≤ n → M (41 + r) c = cv A b n c r) : Cm l yX0_solveRows cX0_solveRows 8 (some .long) 1 30 [vR 19, vI (n : Int)] M (fun r M' => r = some (vL (dt n A)) ∧ (∀ k, (k < 41 ∨ 49 ≤ k) → M' k = M k) ∧ ∀ r, r < n → M' (41 + r) n = Gs n A b r) := by
  refine cmo [some (vR 19), some (vI (n : Int)), none, none, none, none, none, none] ?_
  have lp : ∀ (m1 : Nat) (k : Nat) (M1 : Mem), n < k + m1 → k ≤ n → (∀ q, (q < 41 ∨ 49 ≤ q) → M1 q = M q) → (∀ q c, q < n → c ≤ n → M1 (41 + q) c = Rk A k q (cv A b n c)) → Em l yX0_solveRows cX0_solveRows 8 (some .long) 1 30 (fun r M' => r = some (vL (dt n A)) ∧ (∀ k, (k < 41 ∨ 49 ≤ k) → M' k = M k) ∧ ∀ r, r < n → M' (41 + r) n = Gs n A b r) 5 [some (vR 19), some (vI (n : Int)), some (vL (dt k A)), none, some (vI (k : Int)), none, none, none] [] M1 := by
    intro m1
    induction m1 with
    | zero => intro k M1 h1 h2 hk1 hv1; omega
    | succ m1 ihlp =>
      intro k M1 h1 h2 hk1 hv1
      refine ev_iload dX0_solveRows_5 rfl ?_
      refine ev_iload_n dX0_solveRows_7 rfl ?_
      refine ev_icmp_ge 73 dX0_solveRows_8 (by omega) (by omega) (fun c1 => ?_) (fun c1 => ?_)
      · have et : n = k := by omega
        subst et
        refine ev_lload_n dX0_solveRows_73 rfl ?_
        exact em_lret dX0_solveRows_74 ⟨rfl, hk1, fun r hr => by rw [hv1 r n hr (Nat.le_refl n)]; unfold Rk cv; rw [if_pos hr, if_neg (by omega)]⟩
      · have hDp := D_pos hA (show k + 1 ≤ n by omega)
        have hDl := D_le hA (k + 1) (by omega)
        have hD7 := p7' (show k + 1 ≤ 7 by omega)
        have hEp := D_pos hA (show k ≤ n by omega)
        have hEl := D_le hA k (by omega)
        have hE7 := p7' (show k ≤ 7 by omega)
        have hpv : M1 (41 + k) k = dt (k + 1) A := by rw [hv1 k k (by omega) (by omega)]; unfold cv; rw [if_pos (by omega), Rk_piv]
        refine ev_aload_n dX0_solveRows_11 rfl ?_
        refine em_getR fX0_32.g dX0_solveRows_12 lay_19 rfl ?_
        refine ev_iload dX0_solveRows_15 rfl ?_
        refine en_row k dX0_solveRows_17 (by omega) (by omega) ?_
        refine ev_iload dX0_solveRows_18 rfl ?_
        refine en_lald k dX0_solveRows_20 (lay_row (i := k) (by omega)) (by omega) (by omega) ?_
        rw [hpv]
        refine ev_lstore dX0_solveRows_21 (by decide) ?_
        refine ev_ls [some (vR _), some (vI _), some (vL _), none, some (vI _), some (vL _), none, none] rfl ?_
        refine ev_lload dX0_solveRows_23 rfl ?_
        refine ev_lconst0 dX0_solveRows_25 ?_
        refine ev_lcmp_ne 32 dX0_solveRows_26 dX0_solveRows_27 (by omega) (by omega) (fun c26 => ?_) (fun c26 => ?_)
        · refine ev_iconst dX0_solveRows_32 ?_
          refine ev_istore dX0_solveRows_33 (by decide) ?_
          refine ev_ls [some (vR _), some (vI _), some (vL _), none, some (vI _), some (vL _), none, some (vI _)] rfl ?_
          have inn : ∀ (m2 : Nat) (r : Nat) (M2 : Mem), n < r + m2 → r ≤ n → (∀ q, (q < 41 ∨ 49 ≤ q) → M2 q = M q) → (∀ q c, q < n → c ≤ n → M2 (41 + q) c = if q < r ∧ q ≠ k then Rk A (k + 1) q (cv A b n c) else Rk A k q (cv A b n c)) → Em l yX0_solveRows cX0_solveRows 8 (some .long) 1 30 (fun r M' => r = some (vL (dt n A)) ∧ (∀ k, (k < 41 ∨ 49 ≤ k) → M' k = M k) ∧ ∀ r, r < n → M' (41 + r) n = Gs n A b r) 35 [some (vR 19), some (vI (n : Int)), some (vL (dt k A)), none, some (vI (k : Int)), some (vL (dt (k + 1) A)), none, some (vI (r : Int))] [] M2 := by
            intro m2
            induction m2 with
            | zero => intro r M2 h3 h4 hk2 hv2; omega
            | succ m2 ihinn =>
              intro r M2 h3 h4 hk2 hv2
              refine ev_iload dX0_solveRows_35 rfl ?_
              refine ev_iload_n dX0_solveRows_37 rfl ?_
              refine ev_icmp_ge 64 dX0_solveRows_38 (by omega) (by omega) (fun c2 => ?_) (fun c2 => ?_)
              · have er : n = r := by omega
                subst er
                refine ev_lload dX0_solveRows_64 rfl ?_
                refine ev_lstore_n dX0_solveRows_66 (by decide) ?_
                refine ev_ls [some (vR _), some (vI _), some (vL _), none, some (vI _), some (vL _), none, some (vI _)] rfl ?_
                refine ev_iinc dX0_solveRows_67 rfl (by decide) ?_
                refine ev_ls [some (vR _), some (vI _), some (vL _), none, some (vI _), some (vL _), none, some (vI _)] rfl ?_
                refine ev_goto 5 dX0_solveRows_70 ?_
                refine ev_mask [true, true, true, true, true, false, false, false] ?_
                refine ihlp (k + 1) M2 (by omega) (by omega) hk2 (fun q c hq hc => ?_)
                rw [hv2 q c hq hc]
                by_cases e : q = k
                · subst e; rw [if_neg (by omega), Rk_same hA hq]
                · rw [if_pos ⟨hq, e⟩]
              · refine ev_iload dX0_solveRows_41 rfl ?_
                refine ev_iload dX0_solveRows_43 rfl ?_
                refine ev_icmp_eq 58 dX0_solveRows_45 (by omega) (by omega) (fun c45 => ?_) (fun c45 => ?_)
                · refine ev_iinc dX0_solveRows_58 rfl (by decide) ?_
                  refine ev_ls [some (vR _), some (vI _), some (vL _), none, some (vI _), some (vL _), none, some (vI _)] rfl ?_
                  refine ev_goto 35 dX0_solveRows_61 ?_
                  have er : r = k := by omega
                  exact ihinn (r + 1) M2 (by omega) (by omega) hk2 (fun q c hq hc => by rw [hv2 q c hq hc]; by_cases z : q < r ∧ q ≠ k; (rw [if_pos z, if_pos (by omega)]); (rw [if_neg z, if_neg (by omega)]))
                · have er : r ≠ k := by omega
                  have hrow : ∀ c, c ≤ n → M2 (41 + r) c = Rk A k r (cv A b n c) := fun c hc => by rw [hv2 r c (by omega) hc, if_neg (by omega)]
                  have hpiv : ∀ c, c ≤ n → M2 (41 + k) c = Rk A k k (cv A b n c) := fun c hc => by rw [hv2 k c (by omega) hc, if_neg (by omega)]
                  have ck : cv A b n k = col A k := by unfold cv; rw [if_pos (by omega)]
                  have hnum : ∀ c, c ≤ n → i64 (M2 (41 + k) k * M2 (41 + r) c - M2 (41 + r) k * M2 (41 + k) c) ∧ (M2 (41 + k) k * M2 (41 + r) c - M2 (41 + r) k * M2 (41 + k) c).tdiv (dt k A) = Rk A (k + 1) r (cv A b n c) := fun c hc => by rw [hrow c hc, hpiv c hc, hpiv k (by omega), hrow k (by omega), ck]; exact Rk_num hA h7 hb (by omega) (by omega) er c
                  refine ev_aload_n dX0_solveRows_48 rfl ?_
                  refine ev_iload dX0_solveRows_49 rfl ?_
                  refine ev_iload dX0_solveRows_51 rfl ?_
                  refine ev_iload_n dX0_solveRows_53 rfl ?_
                  refine ev_lload_n dX0_solveRows_54 rfl ?_
                  refine em_V4 (c_clearRow l (r := r) (k := k) (n := n) (by omega) (by omega) er h7 (by omega) (by omega) (fun c hc => (hnum c hc).1)) mX0_119 dX0_solveRows_55 lay_19 ?_
                  rintro r M3 ⟨rfl, k55, m55⟩
                  refine ev_iinc dX0_solveRows_58 rfl (by decide) ?_
                  refine ev_ls [some (vR _), some (vI _), some (vL _), none, some (vI _), some (vL _), none, some (vI _)] rfl ?_
                  refine ev_goto 35 dX0_solveRows_61 ?_
                  refine ihinn (r + 1) M3 (by omega) (by omega) (fun q hq => by rw [k55 q (by omega)]; exact hk2 q hq) (fun q c hq hc => ?_)
                  by_cases z : q = r
                  · subst z; rw [m55 c hc, (hnum c hc).2, if_pos (by omega)]
                  · rw [k55 (41 + q) (by omega), hv2 q c hq hc]; by_cases z2 : q < r ∧ q ≠ k; (rw [if_pos z2, if_pos (by omega)]); (rw [if_neg z2, if_neg (by omega)])
          exact inn (n + 1) 0 M1 (by omega) (by omega) hk1 (fun q c hq hc => by rw [if_neg (by omega)]; exact hv1 q c hq hc)
        · omega
  refine ev_lconst1 dX0_solveRows_0 ?_
  refine ev_lstore_n dX0_solveRows_1 (by decide) ?_
  refine ev_ls [some (vR _), some (vI _), some (vL _), none, none, none, none, none] rfl ?_
  refine ev_iconst dX0_solveRows_2 ?_
  refine ev_istore dX0_solveRows_3 (by decide) ?_
  refine ev_ls [some (vR _), some (vI _), some (vL _), none, some (vI _), none, none, none] rfl ?_
  exact lp (n + 1) 0 M (by omega) (by omega) (fun _ _ => rfl) (fun q c hq hc => by rw [hv q c hq hc, Rk_zero])
set_option maxRecDepth 100000 in
set_option maxHeartbeats 4000000 in
theorem c_fillRows (l : Launch) {M : Mem} {n : Nat} {e : Nat → Nat → Prop} {w : Nat → Nat → Int} {u : Nat → Nat} (h7 : n ≤ 7) (hu : ∀ i, i < n + 1 → M 39 i = (u i : Int) ∧ u i < 8) (hD : DF M e w u (n + 1)) : Cm l yX0_fillRows cX0_fillRows 5 none 1 24 [vR 19, vI ((n + 1 : Nat) : Int)] M (fun r M' => r = none ∧ (∀ k, (k < 41 ∨ 49 ≤ k) → M' k = M k) ∧ ∀ a b, a < n → b ≤ n → M' (41 + a) b = if b = n then bb e w (n + 1) a else La e (n + 1) a b) := by
  refine cmo [some (vR 19), some (vI ((n + 1 : Nat) : Int)), none, none, none] ?_
  have z1 : ∀ (m1 : Nat) (r : Nat) (M1 : Mem), n + 1 < r + m1 → r ≤ n + 1 → (∀ k, (k < 41 ∨ 49 ≤ k) → M1 k = M k) → (∀ a b, a < r → b < n + 1 → M1 (41 + a) b = 0) → Em l yX0_fillRows cX0_fillRows 5 none 1 24 (fun r M' => r = none ∧ (∀ k, (k < 41 ∨ 49 ≤ k) → M' k = M k) ∧ ∀ a b, a < n → b ≤ n → M' (41 + a) b = if b = n then bb e w (n + 1) a else La e (n + 1) a b) 2 [some (vR 19), some (vI ((n + 1 : Nat) : Int)), some (vI (r : Int)), none, none] [] M1 := by
    intro m1
    induction m1 with
    | zero => intro r M1 h1 h2 hk1 hv1; omega
    | succ m1 ihz1 =>
      intro r M1 h1 h2 hk1 hv1
      refine ev_iload_n dX0_fillRows_2 rfl ?_
      refine ev_iload_n dX0_fillRows_3 rfl ?_
      refine ev_icmp_ge 35 dX0_fillRows_4 (by omega) (by omega) (fun c1 => ?_) (fun c1 => ?_)
      · have et : n + 1 = r := by omega
        subst et
        refine ev_iconst dX0_fillRows_35 ?_
        refine ev_istore_n dX0_fillRows_36 (by decide) ?_
        refine ev_ls [some (vR _), some (vI _), some (vI _), none, none] rfl ?_
        have oq : ∀ (m3 : Nat) (q : Nat) (M3 : Mem), n + 1 < q + m3 → q ≤ n + 1 → (∀ k, (k < 41 ∨ 49 ≤ k) → M3 k = M k) → (∀ a b, a < n + 1 → b < n + 1 → M3 (41 + a) b = sm q (fun q => sm q (fun p => kC e w n a b p q))) → Em l yX0_fillRows cX0_fillRows 5 none 1 24 (fun r M' => r = none ∧ (∀ k, (k < 41 ∨ 49 ≤ k) → M' k = M k) ∧ ∀ a b, a < n → b ≤ n → M' (41 + a) b = if b = n then bb e w (n + 1) a else La e (n + 1) a b) 37 [some (vR 19), some (vI ((n + 1 : Nat) : Int)), some (vI (q : Int)), none, none] [] M3 := by
          intro m3
          induction m3 with
          | zero => intro q M3 h5 h6 hk3 hv3; omega
          | succ m3 ihoq =>
            intro q M3 h5 h6 hk3 hv3
            refine ev_iload_n dX0_fillRows_37 rfl ?_
            refine ev_iload_n dX0_fillRows_38 rfl ?_
            refine ev_icmp_ge 99 dX0_fillRows_39 (by omega) (by omega) (fun c3 => ?_) (fun c3 => ?_)
            · have et : n + 1 = q := by omega
              subst et
              exact em_vret dX0_fillRows_99 ⟨rfl, hk3, fun a b ha hb => by rw [hv3 a b (by omega) (by omega), sm_pairs, asm_C ha hb]⟩
            · refine ev_iconst dX0_fillRows_42 ?_
              refine ev_istore_n dX0_fillRows_43 (by decide) ?_
              refine ev_ls [some (vR _), some (vI _), some (vI _), some (vI _), none] rfl ?_
              have ip : ∀ (m4 : Nat) (p : Nat) (M4 : Mem), q < p + m4 → p ≤ q → (∀ k, (k < 41 ∨ 49 ≤ k) → M4 k = M k) → (∀ a b, a < n + 1 → b < n + 1 → M4 (41 + a) b = sm q (fun q => sm q (fun p => kC e w n a b p q)) + sm p (fun p => kC e w n a b p q)) → Em l yX0_fillRows cX0_fillRows 5 none 1 24 (fun r M' => r = none ∧ (∀ k, (k < 41 ∨ 49 ≤ k) → M' k = M k) ∧ ∀ a b, a < n → b ≤ n → M' (41 + a) b = if b = n then bb e w (n + 1) a else La e (n + 1) a b) 44 [some (vR 19), some (vI ((n + 1 : Nat) : Int)), some (vI (q : Int)), some (vI (p : Int)), none] [] M4 := by
                intro m4
                induction m4 with
                | zero => intro p M4 h7 h8 hk4 hv4; omega
                | succ m4 ihip =>
                  intro p M4 h7 h8 hk4 hv4
                  refine ev_iload_n dX0_fillRows_44 rfl ?_
                  refine ev_iload_n dX0_fillRows_45 rfl ?_
                  refine ev_icmp_ge 93 dX0_fillRows_46 (by omega) (by omega) (fun c4 => ?_) (fun c4 => ?_)
                  · have et : q = p := by omega
                    subst et
                    refine ev_iinc dX0_fillRows_93 rfl (by decide) ?_
                    refine ev_ls [some (vR _), some (vI _), some (vI _), some (vI _), none] rfl ?_
                    refine ev_goto 37 dX0_fillRows_96 ?_
                    refine ev_mask [true, true, true, false, false] ?_
                    exact ihoq (q + 1) M4 (by omega) (by omega) hk4 (fun a b ha hb => by rw [hv4 a b ha hb]; rfl)
                  · have hmp : M4 39 p = (u p : Int) := by rw [hk4 39 (by omega)]; exact (hu p (by omega)).1
                    have hmq : M4 39 q = (u q : Int) := by rw [hk4 39 (by omega)]; exact (hu q (by omega)).1
                    have hup := (hu p (by omega)).2
                    have huq := (hu q (by omega)).2
                    have hdf := hD p q (by omega) (by omega)
                    rw [← hk4 (30 + u p) (by omega)] at hdf
                    have hd32 : i32 (M4 (30 + u p) (u q)) := by omega
                    refine ev_aload_n dX0_fillRows_49 rfl ?_
                    refine em_getR fX0_20.g dX0_fillRows_50 lay_19 rfl ?_
                    refine ev_aload_n dX0_fillRows_53 rfl ?_
                    refine em_getR fX0_27.g dX0_fillRows_54 lay_19 rfl ?_
                    refine ev_iload_n dX0_fillRows_57 rfl ?_
                    refine en_iald p dX0_fillRows_58 lay_39 (by omega) (by omega) ?_
                    refine en_dif (u p) dX0_fillRows_59 (by omega) (by omega) ?_
                    refine ev_aload_n dX0_fillRows_60 rfl ?_
                    refine em_getR fX0_27.g dX0_fillRows_61 lay_19 rfl ?_
                    refine ev_iload_n dX0_fillRows_64 rfl ?_
                    refine en_iald q dX0_fillRows_65 lay_39 (by omega) (by omega) ?_
                    refine en_iald (u q) dX0_fillRows_66 (lay_dif (i := (u p)) (by omega)) (by omega) (by omega) ?_
                    refine ev_istore dX0_fillRows_67 (by decide) ?_
                    refine ev_ls [some (vR _), some (vI _), some (vI _), some (vI _), some (vI _)] rfl ?_
                    refine ev_iload dX0_fillRows_69 rfl ?_
                    refine ev_ldc (-1000000002) kX0_90 dX0_fillRows_71 (by decide) ?_
                    refine ev_icmp_eq 87 dX0_fillRows_73 (by omega) (by omega) (fun c73 => ?_) (fun c73 => ?_)
                    · refine ev_iinc dX0_fillRows_87 rfl (by decide) ?_
                      refine ev_ls [some (vR _), some (vI _), some (vI _), some (vI _), some (vI _)] rfl ?_
                      refine ev_goto 44 dX0_fillRows_90 ?_
                      refine ev_mask [true, true, true, true, false] ?_
                      exact ihip (p + 1) M4 (by omega) (by omega) hk4 (fun a b ha hb => by rw [hv4 a b ha hb]; show _ = _ + (sm p _ + kC e w n a b p q); unfold kC; rw [cif_neg (show ¬ e p q by rcases hdf with h | h; omega; exact h.1), Int.add_zero])
                    · have hed : e p q ∧ M4 (30 + u p) (u q) = w p q := by rcases hdf with h | h; exact ⟨h.1, h.2.1⟩; omega
                      refine ev_aload_n dX0_fillRows_76 rfl ?_
                      refine ev_iload_n dX0_fillRows_77 rfl ?_
                      refine ev_iload_n dX0_fillRows_78 rfl ?_
                      refine ev_iload dX0_fillRows_79 rfl ?_
                      refine ev_iload_n dX0_fillRows_81 rfl ?_
                      refine ev_iconst dX0_fillRows_82 ?_
                      refine ev_isub dX0_fillRows_83 ?_
                      rw [show ((n + 1 : Nat) : Int) - 1 = (n : Int) by omega]
                      refine em_V4 (c_addToRows l (p := p) (q := q) (R := n) (by omega) (by omega) (by omega) hd32) mX0_115 dX0_fillRows_84 lay_19 ?_
                      rintro r M5 ⟨rfl, k84, m84⟩
                      refine ev_iinc dX0_fillRows_87 rfl (by decide) ?_
                      refine ev_ls [some (vR _), some (vI _), some (vI _), some (vI _), some (vI _)] rfl ?_
                      refine ev_goto 44 dX0_fillRows_90 ?_
                      refine ev_mask [true, true, true, true, false] ?_
                      exact ihip (p + 1) M5 (by omega) (by omega) (fun k hk => by rw [k84 k hk]; exact hk4 k hk) (fun a b ha hb => by rw [m84 a b, hv4 a b ha hb, hed.2]; show _ = _ + (sm p _ + kC e w n a b p q); unfold kC; rw [cif_pos hed.1, Int.add_assoc])
              exact ip (q + 1) 0 M3 (by omega) (by omega) hk3 (fun a b ha hb => by rw [hv3 a b ha hb]; exact (Int.add_zero _).symm)
        exact oq (n + 2) 0 M1 (by omega) (by omega) hk1 (fun a b ha hb => hv1 a b ha hb)
      · refine ev_iconst dX0_fillRows_7 ?_
        refine ev_istore_n dX0_fillRows_8 (by decide) ?_
        refine ev_ls [some (vR _), some (vI _), some (vI _), some (vI _), none] rfl ?_
        have z2 : ∀ (m2 : Nat) (c : Nat) (M2 : Mem), n + 1 < c + m2 → c ≤ n + 1 → (∀ k, (k < 41 ∨ 49 ≤ k) → M2 k = M k) → (∀ a b, a < r → b < n + 1 → M2 (41 + a) b = 0) → (∀ b, b < c → M2 (41 + r) b = 0) → Em l yX0_fillRows cX0_fillRows 5 none 1 24 (fun r M' => r = none ∧ (∀ k, (k < 41 ∨ 49 ≤ k) → M' k = M k) ∧ ∀ a b, a < n → b ≤ n → M' (41 + a) b = if b = n then bb e w (n + 1) a else La e (n + 1) a b) 9 [some (vR 19), some (vI ((n + 1 : Nat) : Int)), some (vI (r : Int)), some (vI (c : Int)), none] [] M2 := by
          intro m2
          induction m2 with
          | zero => intro c M2 h3 h4 hk2 hv2 hc2; omega
          | succ m2 ihz2 =>
            intro c M2 h3 h4 hk2 hv2 hc2
            refine ev_iload_n dX0_fillRows_9 rfl ?_
            refine ev_iload_n dX0_fillRows_10 rfl ?_
            refine ev_icmp_ge 29 dX0_fillRows_11 (by omega) (by omega) (fun c2 => ?_) (fun c2 => ?_)
            · have et : n + 1 = c := by omega
              subst et
              refine ev_iinc dX0_fillRows_29 rfl (by decide) ?_
              refine ev_ls [some (vR _), some (vI _), some (vI _), some (vI _), none] rfl ?_
              refine ev_goto 2 dX0_fillRows_32 ?_
              refine ev_mask [true, true, true, false, false] ?_
              exact ihz1 (r + 1) M2 (by omega) (by omega) hk2 (fun a b ha hb => by by_cases z : a = r; (subst z; exact hc2 b hb); (exact hv2 a b (by omega) hb))
            · refine ev_aload_n dX0_fillRows_14 rfl ?_
              refine em_getR fX0_32.g dX0_fillRows_15 lay_19 rfl ?_
              refine ev_iload_n dX0_fillRows_18 rfl ?_
              refine en_row r dX0_fillRows_19 (by omega) (by omega) ?_
              refine ev_iload_n dX0_fillRows_20 rfl ?_
              refine ev_lconst0 dX0_fillRows_21 ?_
              refine en_last c dX0_fillRows_22 (lay_row (i := r) (by omega)) (by omega) (by omega) ?_
              refine ev_iinc dX0_fillRows_23 rfl (by decide) ?_
              refine ev_ls [some (vR _), some (vI _), some (vI _), some (vI _), none] rfl ?_
              refine ev_goto 9 dX0_fillRows_26 ?_
              exact ihz2 (c + 1) _ (by omega) (by omega) (fun k hk => by rw [up2_row _ _ _ _ (by omega)]; exact hk2 k hk) (fun a b ha hb => by rw [up2_row _ _ _ _ (by omega)]; exact hv2 a b ha hb) (fun b hb => by rw [up2_at]; by_cases z : b = c; (rw [if_pos ⟨rfl, z⟩]); (rw [if_neg (by omega)]; exact hc2 b (by omega)))
        exact z2 (n + 2) 0 M1 (by omega) (by omega) hk1 hv1 (fun b hb => by omega)
  refine ev_iconst dX0_fillRows_0 ?_
  refine ev_istore_n dX0_fillRows_1 (by decide) ?_
  refine ev_ls [some (vR _), some (vI _), some (vI _), none, none] rfl ?_
  exact z1 (n + 2) 0 M (by omega) (by omega) (fun _ _ => rfl) (fun a b ha hb => by omega)
