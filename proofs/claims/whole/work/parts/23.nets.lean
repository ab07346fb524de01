/-- what nets leaves as it was -/
def FN (M M' : Mem) : Prop := (∀ k, k ≠ 53 → k ≠ 58 → M' k = M k) ∧ (∀ f, f ≠ 6 → f ≠ 7 → f ≠ 8 → f ≠ 9 → f ≠ 10 → M' 53 f = M 53 f)
theorem FN.rf (M : Mem) : FN M M := ⟨fun _ _ _ => rfl, fun _ _ _ _ _ _ => rfl⟩
theorem FN.fr {M M' M'' : Mem} (h : FN M M') (h' : FR M' M'') : FN M M'' := ⟨fun k h1 h2 => (h'.1 k h1).trans (h.1 k h1 h2), fun f a b c d e => (h'.2 f a b c d e).trans (h.2 f a b c d e)⟩
theorem FN.up {M M' : Mem} (h : FN M M') (k : Nat) (x : Int) : FN M (up2 M' 58 k x) := ⟨fun q h1 h2 => by rw [up2_row _ _ _ _ h2, h.1 q h1 h2], fun f a b c d e => by rw [up2_row _ _ _ _ (by omega)]; exact h.2 f a b c d e⟩
theorem FN.en {M0 M M' : Mem} (h : FN M M') (hE : EN M0 M) : EN M0 M' := hE.of (fun k hk => h.1 k (by omega) (by omega))
theorem FN.n {M M' : Mem} (h : FN M M') : M' 53 0 = M 53 0 := h.2 0 (by omega) (by omega) (by omega) (by omega) (by omega)
theorem gd_id {c : Nat → Nat} {T : Nat} (hT : 1 ≤ T) (h0 : c 0 ≤ 0) : 1 ≤ gd (fun t => t) c T := by
  have := gd_lt (f := fun t => c t + 1) (g := fun t => t) (c := c) (k := 0) (n := T) (fun t _ q => by have q1 : c t + 1 = c t := q; omega) (by omega) (by show c 0 + 1 ≠ c 0; omega) (by show 0 = c 0; omega)
  omega
theorem lin_id (e : Nat → Nat → Prop) (T : Nat) : Lin e T (fun t => t) := ⟨fun t _ => Nat.le_refl t, fun g _ t _ => rfl⟩
set_option maxRecDepth 100000 in
set_option maxHeartbeats 4000000 in
theorem d_nets (l : Launch) {M0 M : Mem} {T : Nat} {c : Nat → Nat} (hE : EN M0 M) (hG : GT M0 T) (hT : M 53 0 = (T : Int)) (hc : Lab (eD M0) T c) : Cm l yX6_nets cX6_nets 5 none 3 84 [vR 53] M (fun r M' => r = none ∧ FN M M' ∧ ∀ t, t < T → M' 58 t = (c t : Int)) := by
  refine cmo [some (vR 53), none, none, none, none] ?_
  have h8 := hG.1
  have l1 : ∀ (m1 : Nat) (t : Nat) (Ma : Mem), T < t + m1 → t ≤ T → FN M Ma → (∀ q, q < t → Ma 58 q = (q : Int)) → Em l yX6_nets cX6_nets 5 none 3 84 (fun r M' => r = none ∧ FN M M' ∧ ∀ t, t < T → M' 58 t = (c t : Int)) 2 [some (vR 53), some (vI (t : Int)), none, none, none] [] Ma := by
    intro m1
    induction m1 with
    | zero => intro t Ma h1 h2 hF hv; omega
    | succ m1 ihl1 =>
      intro t Ma h1 h2 hF hv
      have hN := hF.n
      refine ev_iload_n dX6_nets_2 rfl ?_
      refine ev_aload_n dX6_nets_3 rfl ?_
      refine em_getI fX6_40.g dX6_nets_4 lay_53 rfl ?_
      refine ev_icmp_ge 23 dX6_nets_7 (by omega) (by omega) (fun c1 => ?_) (fun c1 => ?_)
      · have et : T = t := by omega
        subst et
        have times : ∀ (m2 : Nat) (tm : Nat) (M1 : Mem) (f : Nat → Nat), T < tm + m2 → tm ≤ T → FN M M1 → (∀ t, t < T → M1 58 t = (f t : Int)) → Lin (eD M0) T f → (tm + 1 ≤ gd f c T ∨ gd f c T = T) → Em l yX6_nets cX6_nets 5 none 3 84 (fun r M' => r = none ∧ FN M M' ∧ ∀ t, t < T → M' 58 t = (c t : Int)) 25 [some (vR 53), some (vI (tm : Int)), none, none, none] [] M1 := by
          intro m2
          induction m2 with
          | zero => intro tm M1 f h3 h4 hF1 hv1 hlin hgd; omega
          | succ m2 ihtimes =>
            intro tm M1 f h3 h4 hF1 hv1 hlin hgd
            have hN := hF1.n
            refine ev_iload_n dX6_nets_25 rfl ?_
            refine ev_aload_n dX6_nets_26 rfl ?_
            refine em_getI fX6_40.g dX6_nets_27 lay_53 rfl ?_
            refine ev_icmp_ge 130 dX6_nets_30 (by omega) (by omega) (fun c2 => ?_) (fun c2 => ?_)
            · have e1 := gd_le f c T
              have e2 := gd_all (f := f) (c := c) (n := T) (by omega)
              exact em_vret dX6_nets_130 ⟨rfl, hF1, fun t ht => by rw [hv1 t ht, e2 t ht]⟩
            · refine ev_iconst dX6_nets_33 ?_
              refine ev_istore_n dX6_nets_34 (by decide) ?_
              refine ev_ls [some (vR _), some (vI _), some (vI _), none, none] rfl ?_
              have la : ∀ (m3 : Nat) (a : Nat) (M2 : Mem) (g : Nat → Nat), T < a + m3 → a ≤ T → FN M M2 → (∀ t, t < T → M2 58 t = (g t : Int)) → Lin (eD M0) T g → (∀ t, t < T → g t ≤ f t) → (∀ x z, x < z → z < T → eD M0 x z → x < a → g x ≤ f z ∧ g z ≤ f x) → Em l yX6_nets cX6_nets 5 none 3 84 (fun r M' => r = none ∧ FN M M' ∧ ∀ t, t < T → M' 58 t = (c t : Int)) 35 [some (vR 53), some (vI (tm : Int)), some (vI (a : Int)), none, none] [] M2 := by
                intro m3
                induction m3 with
                | zero => intro a M2 g h5 h6 hF2 hv2 hlg hle hpr; omega
                | succ m3 ihla =>
                  intro a M2 g h5 h6 hF2 hv2 hlg hle hpr
                  have hN := hF2.n
                  refine ev_iload_n dX6_nets_35 rfl ?_
                  refine ev_aload_n dX6_nets_36 rfl ?_
                  refine em_getI fX6_40.g dX6_nets_37 lay_53 rfl ?_
                  refine ev_icmp_ge 124 dX6_nets_40 (by omega) (by omega) (fun c3 => ?_) (fun c3 => ?_)
                  · refine ev_iinc dX6_nets_124 rfl (by decide) ?_
                    refine ev_ls [some (vR _), some (vI _), some (vI _), none, none] rfl ?_
                    refine ev_goto 25 dX6_nets_127 ?_
                    refine ev_mask [true, true, false, false, false] ?_
                    have hgd : tm + 1 + 1 ≤ gd g c T ∨ gd g c T = T := by
                      have e1 := gd_le g c T
                      have e2 := gd_le f c T
                      by_cases q : gd f c T < T
                      · have := lin_round hc hlin hlg hle (fun x z h1 h2 h3 => hpr x z h1 h2 h3 (by omega)) q
                        omega
                      · have := gd_mono (f := f) (g := g) (c := c) (n := T) (fun t ht q1 => by have := lin_ge hc hlg ht; have := hle t ht; omega)
                        omega
                    exact ihtimes (tm + 1) M2 g (by omega) (by omega) hF2 hv2 hlg hgd
                  · refine ev_iload_n dX6_nets_43 rfl ?_
                    refine ev_iconst dX6_nets_44 ?_
                    refine ev_iadd dX6_nets_45 ?_
                    refine ev_istore_n dX6_nets_46 (by decide) ?_
                    refine ev_ls [some (vR _), some (vI _), some (vI _), some (vI _), none] rfl ?_
                    have lb : ∀ (m4 : Nat) (b : Nat) (M3 : Mem) (h : Nat → Nat), T < b + m4 → b ≤ T → a < b → FN M M3 → (∀ t, t < T → M3 58 t = (h t : Int)) → Lin (eD M0) T h → (∀ t, t < T → h t ≤ f t) → (∀ x z, x < z → z < T → eD M0 x z → (x < a ∨ (x = a ∧ z < b)) → h x ≤ f z ∧ h z ≤ f x) → Em l yX6_nets cX6_nets 5 none 3 84 (fun r M' => r = none ∧ FN M M' ∧ ∀ t, t < T → M' 58 t = (c t : Int)) 47 [some (vR 53), some (vI (tm : Int)), some (vI (a : Int)), some (vI (b : Int)), none] [] M3 := by
                      intro m4
                      induction m4 with
                      | zero => intro b M3 h h7 h8b hab hF3 hv3 hlh hlf hpq; omega
                      | succ m4 ihlb =>
                        intro b M3 h h7 h8b hab hF3 hv3 hlh hlf hpq
                        have hN := hF3.n
                        have hE3 := hF3.en hE
                        refine ev_iload_n dX6_nets_47 rfl ?_
                        refine ev_aload_n dX6_nets_48 rfl ?_
                        refine em_getI fX6_40.g dX6_nets_49 lay_53 rfl ?_
                        refine ev_icmp_ge 118 dX6_nets_52 (by omega) (by omega) (fun c4 => ?_) (fun c4 => ?_)
                        · refine ev_iinc dX6_nets_118 rfl (by decide) ?_
                          refine ev_ls [some (vR _), some (vI _), some (vI _), some (vI _), none] rfl ?_
                          refine ev_goto 35 dX6_nets_121 ?_
                          refine ev_mask [true, true, true, false, false] ?_
                          exact ihla (a + 1) M3 h (by omega) (by omega) hF3 hv3 hlh hlf (fun x z h1 h2 h3 h4 => hpq x z h1 h2 h3 (by omega))
                        · refine ev_aload_n dX6_nets_55 rfl ?_
                          refine ev_iload_n dX6_nets_56 rfl ?_
                          refine ev_iload_n dX6_nets_57 rfl ?_
                          refine em_V2 (d_differ l hE3 hG (by omega) (by omega)) mX6_118 dX6_nets_58 lay_53 ?_
                          rintro r M4 ⟨k58, f58, hE58, z58, rfl, hd⟩
                          refine ev_if_eq 112 dX6_nets_61 (by omega) (fun c61 => ?_) (fun c61 => ?_)
                          · refine ev_iinc dX6_nets_112 rfl (by decide) ?_
                            refine ev_ls [some (vR _), some (vI _), some (vI _), some (vI _), none] rfl ?_
                            refine ev_goto 47 dX6_nets_115 ?_
                            exact ihlb (b + 1) M4 h (by omega) (by omega) (by omega) (hF3.fr ⟨k58, f58⟩) (fun t ht => by rw [k58 58 (by omega)]; exact hv3 t ht) hlh hlf (fun x z h1 h2 h3 h4 => by rcases h4 with h4 | ⟨h4, h5⟩; exact hpq x z h1 h2 h3 (Or.inl h4); by_cases q : z = b; (subst q; subst h4; exact absurd h3 (by rcases hd with hd | hd; exact hd.2; omega)); (exact hpq x z h1 h2 h3 (by omega)))
                          · have hed : eD M0 a b := by rcases hd with hd | hd; omega; exact hd.2.1
                            have va : M4 58 a = (h a : Int) := by rw [k58 58 (by omega)]; exact hv3 a (by omega)
                            have vb : M4 58 b = (h b : Int) := by rw [k58 58 (by omega)]; exact hv3 b (by omega)
                            have la1 := hlh.1 a (by omega)
                            have lb1 := hlh.1 b (by omega)
                            refine ev_aload_n dX6_nets_64 rfl ?_
                            refine em_getR fX6_23.g dX6_nets_65 lay_53 rfl ?_
                            refine ev_iload_n dX6_nets_68 rfl ?_
                            refine en_iald a dX6_nets_69 lay_58 (by omega) (by omega) ?_
                            refine ev_aload_n dX6_nets_70 rfl ?_
                            refine em_getR fX6_23.g dX6_nets_71 lay_53 rfl ?_
                            refine ev_iload_n dX6_nets_74 rfl ?_
                            refine en_iald b dX6_nets_75 lay_58 (by omega) (by omega) ?_
                            refine ev_icmp_ge 88 dX6_nets_76 (by omega) (by omega) (fun c76 => ?_) (fun c76 => ?_)
                            · refine ev_aload_n dX6_nets_88 rfl ?_
                              refine em_getR fX6_23.g dX6_nets_89 lay_53 rfl ?_
                              refine ev_iload_n dX6_nets_92 rfl ?_
                              refine en_iald b dX6_nets_93 lay_58 (by omega) (by omega) ?_
                              first | rw [show M4 58 a = ((min (h a) (h b) : Nat) : Int) by omega] | rw [show M4 58 b = ((min (h a) (h b) : Nat) : Int) by omega]
                              refine ev_istore dX6_nets_94 (by decide) ?_
                              refine ev_ls [some (vR _), some (vI _), some (vI _), some (vI _), some (vI _)] rfl ?_
                              refine ev_aload_n dX6_nets_96 rfl ?_
                              refine em_getR fX6_23.g dX6_nets_97 lay_53 rfl ?_
                              refine ev_iload_n dX6_nets_100 rfl ?_
                              refine ev_iload dX6_nets_101 rfl ?_
                              refine en_iast a dX6_nets_103 lay_58 (by omega) (by omega) ?_
                              refine ev_aload_n dX6_nets_104 rfl ?_
                              refine em_getR fX6_23.g dX6_nets_105 lay_53 rfl ?_
                              refine ev_iload_n dX6_nets_108 rfl ?_
                              refine ev_iload dX6_nets_109 rfl ?_
                              refine en_iast b dX6_nets_111 lay_58 (by omega) (by omega) ?_
                              refine ev_iinc dX6_nets_112 rfl (by decide) ?_
                              refine ev_ls [some (vR _), some (vI _), some (vI _), some (vI _), some (vI _)] rfl ?_
                              refine ev_goto 47 dX6_nets_115 ?_
                              refine ev_mask [true, true, true, true, false] ?_
                              have hlu := lin_upd hlh (show a < b by omega) (by omega) hed
                              refine ihlb (b + 1) _ (va_up (va_up h a (min (h a) (h b))) b (min (h a) (h b))) (by omega) (by omega) (by omega) (((hF3.fr ⟨k58, f58⟩).up _ _).up _ _) ?_ hlu ?_ ?_
                              · intro t ht
                                rw [up2_at, up2_at]
                                by_cases q : t = b
                                · rw [if_pos ⟨rfl, q⟩, q, va_up_self]
                                · rw [if_neg (by omega), va_up_ne _ _ q]
                                  by_cases q2 : t = a
                                  · rw [if_pos ⟨rfl, q2⟩, q2, va_up_self]
                                  · rw [if_neg (by omega), va_up_ne _ _ q2, k58 58 (by omega)]; exact hv3 t ht
                              · intro t ht
                                have u1 := hlf t ht
                                by_cases q : t = b
                                · subst q; rw [va_up_self]; omega
                                · rw [va_up_ne _ _ q]
                                  by_cases q2 : t = a
                                  · subst q2; rw [va_up_self]; omega
                                  · rw [va_up_ne _ _ q2]; exact u1
                              · intro x z h1 h2 h3 h4
                                have lx : va_up (va_up h a (min (h a) (h b))) b (min (h a) (h b)) x ≤ h x := by
                                  by_cases q : x = b
                                  · subst q; rw [va_up_self]; omega
                                  · rw [va_up_ne _ _ q]
                                    by_cases q2 : x = a
                                    · subst q2; rw [va_up_self]; omega
                                    · rw [va_up_ne _ _ q2]; omega
                                have lz : va_up (va_up h a (min (h a) (h b))) b (min (h a) (h b)) z ≤ h z := by
                                  by_cases q : z = b
                                  · subst q; rw [va_up_self]; omega
                                  · rw [va_up_ne _ _ q]
                                    by_cases q2 : z = a
                                    · subst q2; rw [va_up_self]; omega
                                    · rw [va_up_ne _ _ q2]; omega
                                by_cases q : x = a ∧ z = b
                                · obtain ⟨rfl, rfl⟩ := q
                                  have u1 := hlf x (by omega)
                                  have u2 := hlf z (by omega)
                                  rw [va_up_self, va_up_ne _ _ (show x ≠ z by omega), va_up_self]
                                  omega
                                · have := hpq x z h1 h2 h3 (by omega)
                                  omega
                            · refine ev_aload_n dX6_nets_79 rfl ?_
                              refine em_getR fX6_23.g dX6_nets_80 lay_53 rfl ?_
                              refine ev_iload_n dX6_nets_83 rfl ?_
                              refine en_iald a dX6_nets_84 lay_58 (by omega) (by omega) ?_
                              refine ev_goto 94 dX6_nets_85 ?_
                              first | rw [show M4 58 a = ((min (h a) (h b) : Nat) : Int) by omega] | rw [show M4 58 b = ((min (h a) (h b) : Nat) : Int) by omega]
                              refine ev_istore dX6_nets_94 (by decide) ?_
                              refine ev_ls [some (vR _), some (vI _), some (vI _), some (vI _), some (vI _)] rfl ?_
                              refine ev_aload_n dX6_nets_96 rfl ?_
                              refine em_getR fX6_23.g dX6_nets_97 lay_53 rfl ?_
                              refine ev_iload_n dX6_nets_100 rfl ?_
                              refine ev_iload dX6_nets_101 rfl ?_
                              refine en_iast a dX6_nets_103 lay_58 (by omega) (by omega) ?_
                              refine ev_aload_n dX6_nets_104 rfl ?_
                              refine em_getR fX6_23.g dX6_nets_105 lay_53 rfl ?_
                              refine ev_iload_n dX6_nets_108 rfl ?_
                              refine ev_iload dX6_nets_109 rfl ?_
                              refine en_iast b dX6_nets_111 lay_58 (by omega) (by omega) ?_
                              refine ev_iinc dX6_nets_112 rfl (by decide) ?_
                              refine ev_ls [some (vR _), some (vI _), some (vI _), some (vI _), some (vI _)] rfl ?_
                              refine ev_goto 47 dX6_nets_115 ?_
                              refine ev_mask [true, true, true, true, false] ?_
                              have hlu := lin_upd hlh (show a < b by omega) (by omega) hed
                              refine ihlb (b + 1) _ (va_up (va_up h a (min (h a) (h b))) b (min (h a) (h b))) (by omega) (by omega) (by omega) (((hF3.fr ⟨k58, f58⟩).up _ _).up _ _) ?_ hlu ?_ ?_
                              · intro t ht
                                rw [up2_at, up2_at]
                                by_cases q : t = b
                                · rw [if_pos ⟨rfl, q⟩, q, va_up_self]
                                · rw [if_neg (by omega), va_up_ne _ _ q]
                                  by_cases q2 : t = a
                                  · rw [if_pos ⟨rfl, q2⟩, q2, va_up_self]
                                  · rw [if_neg (by omega), va_up_ne _ _ q2, k58 58 (by omega)]; exact hv3 t ht
                              · intro t ht
                                have u1 := hlf t ht
                                by_cases q : t = b
                                · subst q; rw [va_up_self]; omega
                                · rw [va_up_ne _ _ q]
                                  by_cases q2 : t = a
                                  · subst q2; rw [va_up_self]; omega
                                  · rw [va_up_ne _ _ q2]; exact u1
                              · intro x z h1 h2 h3 h4
                                have lx : va_up (va_up h a (min (h a) (h b))) b (min (h a) (h b)) x ≤ h x := by
                                  by_cases q : x = b
                                  · subst q; rw [va_up_self]; omega
                                  · rw [va_up_ne _ _ q]
                                    by_cases q2 : x = a
                                    · subst q2; rw [va_up_self]; omega
                                    · rw [va_up_ne _ _ q2]; omega
                                have lz : va_up (va_up h a (min (h a) (h b))) b (min (h a) (h b)) z ≤ h z := by
                                  by_cases q : z = b
                                  · subst q; rw [va_up_self]; omega
                                  · rw [va_up_ne _ _ q]
                                    by_cases q2 : z = a
                                    · subst q2; rw [va_up_self]; omega
                                    · rw [va_up_ne _ _ q2]; omega
                                by_cases q : x = a ∧ z = b
                                · obtain ⟨rfl, rfl⟩ := q
                                  have u1 := hlf x (by omega)
                                  have u2 := hlf z (by omega)
                                  rw [va_up_self, va_up_ne _ _ (show x ≠ z by omega), va_up_self]
                                  omega
                                · have := hpq x z h1 h2 h3 (by omega)
                                  omega
                    exact lb (T + 1) (a + 1) M2 g (by omega) (by omega) (by omega) hF2 hv2 hlg hle (fun x z h1 h2 h3 h4 => hpr x z h1 h2 h3 (by omega))
              exact la (T + 1) 0 M1 f (by omega) (by omega) hF1 hv1 hlin (fun t ht => Nat.le_refl _) (fun x z h1 h2 h3 h4 => by omega)
        refine ev_iconst dX6_nets_23 ?_
        refine ev_istore_n dX6_nets_24 (by decide) ?_
        refine ev_ls [some (vR _), some (vI _), none, none, none] rfl ?_
        exact times (T + 1) 0 Ma (fun t => t) (by omega) (by omega) hF hv (lin_id _ _) (by rcases Nat.eq_zero_or_pos T with q | q; (subst q; exact Or.inr rfl); (exact Or.inl (gd_id q (hc.2.1 0 q))))
      · refine ev_aload_n dX6_nets_10 rfl ?_
        refine em_getR fX6_23.g dX6_nets_11 lay_53 rfl ?_
        refine ev_iload_n dX6_nets_14 rfl ?_
        refine ev_iload_n dX6_nets_15 rfl ?_
        refine en_iast t dX6_nets_16 lay_58 (by omega) (by omega) ?_
        refine ev_iinc dX6_nets_17 rfl (by decide) ?_
        refine ev_ls [some (vR _), some (vI _), none, none, none] rfl ?_
        refine ev_goto 2 dX6_nets_20 ?_
        exact ihl1 (t + 1) _ (by omega) (by omega) (hF.up _ _) (fun q hq => by rw [up2_at]; by_cases e : q = t; (rw [if_pos ⟨rfl, e⟩, e]); (rw [if_neg (by omega)]; exact hv q (by omega)))
  refine ev_iconst dX6_nets_0 ?_
  refine ev_istore_n dX6_nets_1 (by decide) ?_
  refine ev_ls [some (vR _), some (vI _), none, none, none] rfl ?_
  exact l1 (T + 1) 0 M (by omega) (by omega) (FN.rf M) (fun q hq => by omega)
