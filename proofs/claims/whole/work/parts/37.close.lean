noncomputable def kB (M0 : Mem) (c : Nat → Nat) (T : Nat) : Nat → Int
  | 0 => 1
  | g + 1 => if c g = g then kB M0 c T g * dN M0 c g T 0 else kB M0 c T g
noncomputable def kA (M0 : Mem) (c : Nat → Nat) (T : Nat) : Nat → Int
  | 0 => 0
  | g + 1 => if c g = g then kA M0 c T g * dN M0 c g T 0 + clS (eN M0 c g T) (wN M0 c g T) (nN c g T + 1) (xN M0 c g T 0) * kB M0 c T g else kA M0 c T g
noncomputable def fA (M0 : Mem) (c : Nat → Nat) (g T o i : Nat) : Int := (offA (nN c g T) (xN M0 c g T o) i).tdiv (Int.gcd (offA (nN c g T) (xN M0 c g T o) i) (((nN c g T + 1 : Nat) : Int) * dN M0 c g T o) : Int)
noncomputable def fB (M0 : Mem) (c : Nat → Nat) (g T o i : Nat) : Int := (((nN c g T + 1 : Nat) : Int) * dN M0 c g T o).tdiv (Int.gcd (offA (nN c g T) (xN M0 c g T o) i) (((nN c g T + 1 : Nat) : Int) * dN M0 c g T o) : Int)
/-- the closing's answers stand for the nets below t -/
def CO (M0 M : Mem) (c : Nat → Nat) (T t : Nat) : Prop := M 19 2 = sm t (fun g => if 1 < (ml c g T).length then 1 else 0) ∧ M 19 3 = sm t (fun g => if (ml c (c g) T).length = 1 then 1 else 0) ∧ M 19 10 = kA M0 c T t ∧ M 19 11 = kB M0 c T t ∧ (∀ g, g < t → c g = g → ∀ i, i < (ml c g T).length → M (21 + me c g T i) 0 = fA M0 c g T 0 i ∧ M (21 + me c g T i) 1 = fB M0 c g T 0 i)
def CS (M0 M : Mem) (T : Nat) : Prop := M 19 1 = sm T (fun b => sm b (fun a => cif (eD M0 a b) 1 0)) ∧ M 19 4 = sm T (fun b => sm b (fun a => sqD M0 a b))
/-- the table of differences, up to pair a b -/
def DT (M0 M : Mem) (a b : Nat) : Prop := ∀ x z, x < z → (z < b ∨ (z = b ∧ x < a)) → (eD M0 x z ∧ M (30 + x) z = wD M0 x z) ∨ (¬ eD M0 x z ∧ M (30 + x) z = -1000000002)
def SA (M : Mem) : Prop := (M 19 2 = 0 ∧ M 19 3 = 0 ∧ M 19 10 = 0 ∧ M 19 11 = 1) ∧ ∀ t, t < 8 → M (21 + t) 0 = 0 ∧ M (21 + t) 1 = 1
theorem rel_lt {f : Nat → Nat} {x z t : Nat} (h : f t < 8) (hx : x < 8) (hz : z < 8) : rel f x z t < 8 := by
  unfold rel
  by_cases e : f t = max x z
  · rw [if_pos e]; omega
  · rw [if_neg e]; exact h
theorem ml_notroot {e : Nat → Nat → Prop} {T : Nat} {c : Nat → Nat} (h : Lab e T c) {t : Nat} (hne : c t ≠ t) : (ml c t T).length = 0 := by
  rcases Nat.eq_zero_or_pos (ml c t T).length with q | q
  · exact q
  · have hm := me_in (c := c) (g := t) (T := T) (i := 0) q
    have h2 := lab_idem h hm.1
    rw [hm.2] at h2
    exact absurd h2 hne
theorem ml_two {c : Nat → Nat} {g T a b : Nat} (ha : a < T) (hb : b < T) (hab : a ≠ b) (hca : c a = g) (hcb : c b = g) : 1 < (ml c g T).length := by
  obtain ⟨i, hi, hia⟩ := me_ex ha hca
  obtain ⟨j, hj, hjb⟩ := me_ex hb hcb
  have : i ≠ j := fun q => hab (by rw [← hia, ← hjb, q])
  omega
theorem ml_alone {e : Nat → Nat → Prop} {T : Nat} {c : Nat → Nat} (h : Lab e T c) {t : Nat} (ht : t < T) (hne : c t ≠ t) : 1 < (ml c (c t) T).length :=
  ml_two (a := t) (b := c t) ht (by have := h.2.1 t ht; omega) (fun q => hne q.symm) rfl (lab_idem h ht)
theorem one_net {M0 : Mem} {c : Nat → Nat} {g T : Nat} (h : (ml c g T).length = 1) : nN c g T = 0 ∧ dN M0 c g T 0 = 1 ∧ clS (eN M0 c g T) (wN M0 c g T) (nN c g T + 1) (xN M0 c g T 0) = 0 ∧ fA M0 c g T 0 0 = 0 ∧ fB M0 c g T 0 0 = 1 := by
  have e0 : nN c g T = 0 := by unfold nN; omega
  have ed : dN M0 c g T 0 = 1 := by unfold dN Do; rw [e0]; rfl
  have eo : offA (nN c g T) (xN M0 c g T 0) 0 = 0 := by
    unfold offA; rw [e0]
    show ((1 : Nat) : Int) * xN M0 c g T 0 0 - (0 + xN M0 c g T 0 0) = 0
    omega
  refine ⟨e0, ed, ?_, ?_, ?_⟩
  · rw [e0]; unfold clS; rfl
  · unfold fA; rw [eo]; exact Int.zero_tdiv _
  · unfold fB; rw [eo, ed, e0]; rfl
set_option maxRecDepth 100000 in
set_option maxHeartbeats 4000000 in
theorem c_close (l : Launch) {M0 M : Mem} {T : Nat} {c : Nat → Nat} (hE : EN M0 M) (hG : GT M0 T) (hc : Lab (eD M0) T c) : Cm l yX0_close cX0_close 6 none 4 108 [vR 19, vR 1, vI (T : Int), vR 18] M (fun r M' => r = none ∧ (∀ k, (k < 18 ∨ 50 ≤ k) → M' k = M k) ∧ CS M0 M' T ∧ CO M0 M' c T T) := by
  refine cmo [some (vR 19), some (vR 1), some (vI (T : Int)), some (vR 18), none, none] ?_
  have h8 := hG.1
  have l1 : ∀ (m1 : Nat) (b : Nat) (M1 : Mem) (f : Nat → Nat), T < b + m1 → b ≤ T → (∀ k, (k < 18 ∨ 50 ≤ k) → M1 k = M k) → (∀ t, t < 8 → M1 38 t = (f t : Int) ∧ f t < 8) → LabQ (eD M0) T (fun x z => z < b) f → CS M0 M1 b → SA M1 → DT M0 M1 0 b → Em l yX0_close cX0_close 6 none 4 108 (fun r M' => r = none ∧ (∀ k, (k < 18 ∨ 50 ≤ k) → M' k = M k) ∧ CS M0 M' T ∧ CO M0 M' c T T) 7 [some (vR 19), some (vR 1), some (vI (T : Int)), some (vR 18), some (vI (b : Int)), none] [] M1 := by
    intro m1
    induction m1 with
    | zero => intro b M1 f h1 h2 hk1 hf1 hl1 hs1 hz1 hd1; omega
    | succ m1 ihl1 =>
      intro b M1 f h1 h2 hk1 hf1 hl1 hs1 hz1 hd1
      refine ev_iload dX0_close_7 rfl ?_
      refine ev_iload_n dX0_close_9 rfl ?_
      refine ev_icmp_ge 55 dX0_close_10 (by omega) (by omega) (fun c1 => ?_) (fun c1 => ?_)
      · have et : T = b := by omega
        subst et
        have hlf : Lab (eD M0) T f := lab_done hl1 (fun x z _ h2 => h2)
        have hfc : ∀ t, t < T → f t = c t := fun t ht => lab_unique hlf hc ht
        have hv1 : ∀ t, t < T → M1 38 t = (c t : Int) ∧ c t < 8 := fun t ht => by rw [← hfc t ht]; exact hf1 t (by omega)
        refine ev_iconst dX0_close_55 ?_
        refine ev_istore dX0_close_56 (by decide) ?_
        refine ev_ls [some (vR _), some (vR _), some (vI _), some (vR _), some (vI _), none] rfl ?_
        have l3 : ∀ (m3 : Nat) (t : Nat) (M3 : Mem), T < t + m3 → t ≤ T → (∀ k, (k < 18 ∨ 50 ≤ k) → M3 k = M k) → CS M0 M3 T → CO M0 M3 c T t → (∀ g, t ≤ g → g < T → ∀ i, i < (ml c g T).length → M3 (21 + me c g T i) 0 = 0 ∧ M3 (21 + me c g T i) 1 = 1) → (∀ q, q < T → M3 38 q = (c q : Int) ∧ c q < 8) → (∀ x z, x < z → z < T → (eD M0 x z ∧ M3 (30 + x) z = wD M0 x z) ∨ (¬ eD M0 x z ∧ M3 (30 + x) z = -1000000002)) → Em l yX0_close cX0_close 6 none 4 108 (fun r M' => r = none ∧ (∀ k, (k < 18 ∨ 50 ≤ k) → M' k = M k) ∧ CS M0 M' T ∧ CO M0 M' c T T) 58 [some (vR 19), some (vR 1), some (vI (T : Int)), some (vR 18), some (vI (t : Int)), none] [] M3 := by
          intro m3
          induction m3 with
          | zero => intro t M3 h5 h6 hk3 hs3 hco3 hz3 hv3 hd3; omega
          | succ m3 ihl3 =>
            intro t M3 h5 h6 hk3 hs3 hco3 hz3 hv3 hd3
            refine ev_iload dX0_close_58 rfl ?_
            refine ev_iload_n dX0_close_60 rfl ?_
            refine ev_icmp_ge 93 dX0_close_61 (by omega) (by omega) (fun c3 => ?_) (fun c3 => ?_)
            · have et : T = t := by omega
              subst et
              exact em_vret dX0_close_93 ⟨rfl, hk3, hs3, hco3⟩
            · have hvt := (hv3 t (by omega)).1
              have hct := hc.2.1 t (by omega)
              refine ev_aload_n dX0_close_64 rfl ?_
              refine em_getR fX0_23.g dX0_close_65 lay_19 rfl ?_
              refine ev_iload dX0_close_68 rfl ?_
              refine en_iald t dX0_close_70 lay_38 (by omega) (by omega) ?_
              refine ev_iload dX0_close_71 rfl ?_
              refine ev_icmp_ne 87 dX0_close_73 (by omega) (by omega) (fun c73 => ?_) (fun c73 => ?_)
              · have ect : c t ≠ t := by omega
                have l0 := ml_notroot hc ect
                have l2 := ml_alone hc (show t < T by omega) ect
                refine ev_iinc dX0_close_87 rfl (by decide) ?_
                refine ev_ls [some (vR _), some (vR _), some (vI _), some (vR _), some (vI _), none] rfl ?_
                refine ev_goto 58 dX0_close_90 ?_
                refine ihl3 (t + 1) M3 (by omega) (by omega) hk3 hs3 ?_ (fun g hg => hz3 g (by omega)) hv3 hd3
                refine ⟨?_, ?_, ?_, ?_, ?_⟩
                · rw [hco3.1]; show _ = _ + (if 1 < (ml c t T).length then (1 : Int) else 0); rw [if_neg (by omega), Int.add_zero]
                · rw [hco3.2.1]; show _ = _ + (if (ml c (c t) T).length = 1 then (1 : Int) else 0); rw [if_neg (by omega), Int.add_zero]
                · rw [hco3.2.2.1]; show _ = (if c t = t then _ else _); rw [if_neg ect]
                · rw [hco3.2.2.2.1]; show _ = (if c t = t then _ else _); rw [if_neg ect]
                · intro g hg hcg i hi; exact hco3.2.2.2.2 g (by by_cases z : g = t; (subst z; exact absurd hcg ect); omega) hcg i hi
              · have ect : c t = t := by omega
                have hz := me_zero hc (show t < T by omega) ect
                have hml := ml_len c t T
                refine ev_aload_n dX0_close_76 rfl ?_
                refine ev_aload_n dX0_close_77 rfl ?_
                refine ev_iload dX0_close_78 rfl ?_
                refine ev_iload_n dX0_close_80 rfl ?_
                refine em_V2 (c_gather l (c := c) (g := t) h8 hv3 (by omega)) mX0_59 dX0_close_81 lay_19 ?_
                rintro r M4 ⟨rfl, k81, m81⟩
                by_cases hone : (ml c t T).length = 1
                · rw [hone]
                  refine em_V1 (c_settleOne l) mX0_63 dX0_close_84 lay_19 ?_
                  rintro r M5 ⟨rfl, rfl⟩
                  refine ev_iinc dX0_close_87 rfl (by decide) ?_
                  refine ev_ls [some (vR _), some (vR _), some (vI _), some (vR _), some (vI _), none] rfl ?_
                  refine ev_goto 58 dX0_close_90 ?_
                  have on := one_net (M0 := M0) hone
                  have q19 : M4 19 = M3 19 := k81 19 (by omega)
                  refine ihl3 (t + 1) _ (by omega) (by omega) (fun k hk => by rw [up2_row _ _ _ _ (by omega), k81 k (by omega)]; exact hk3 k hk) ?_ ?_ (fun g hg h1 i hi => by have hm := (me_in hi).1; rw [up2_row _ _ _ _ (by omega), k81 _ (by omega)]; exact hz3 g (by omega) h1 i hi) (fun q hq => by rw [up2_row _ _ _ _ (by omega), k81 38 (by omega)]; exact hv3 q hq) (fun x z h1 h2 => by rw [up2_row _ _ _ _ (by omega), k81 _ (by omega)]; exact hd3 x z h1 h2)
                  · unfold CS; rw [up2_ne _ _ _ _ (Or.inr (by omega)), up2_ne _ _ _ _ (Or.inr (by omega)), q19]; exact hs3
                  refine ⟨?_, ?_, ?_, ?_, ?_⟩
                  · rw [up2_ne _ _ _ _ (Or.inr (by omega)), q19, hco3.1]; show _ = _ + (if 1 < (ml c t T).length then (1 : Int) else 0); rw [if_neg (by omega), Int.add_zero]
                  · rw [up2_same, q19, hco3.2.1]; show _ = _ + (if (ml c (c t) T).length = 1 then (1 : Int) else 0); rw [if_pos (by rw [ect]; exact hone)]
                  · rw [up2_ne _ _ _ _ (Or.inr (by omega)), q19, hco3.2.2.1]; show _ = (if c t = t then _ else _); rw [if_pos ect, on.2.1, on.2.2.1]; omega
                  · rw [up2_ne _ _ _ _ (Or.inr (by omega)), q19, hco3.2.2.2.1]; show _ = (if c t = t then _ else _); rw [if_pos ect, on.2.1]; omega
                  · intro g hg hcg i hi
                    have hm := (me_in hi).1
                    rw [up2_row _ _ _ _ (by omega), k81 _ (by omega)]
                    by_cases z : g = t
                    · subst z; have i0 : i = 0 := by omega
                      subst i0; rw [on.2.2.2.1, on.2.2.2.2]; exact hz3 g (Nat.le_refl g) (by omega) 0 hi
                    · exact hco3.2.2.2.2 g (by omega) hcg i hi
                · have hn1 : (ml c t T).length = nN c t T + 1 := by unfold nN; omega
                  have hin : ∀ i, i < nN c t T + 1 → me c t T i < T ∧ c (me c t T i) = t := fun i hi => me_in (by omega)
                  rw [hn1]
                  refine em_V1 (c_settleNet l (n := nN c t T) (e := eN M0 c t T) (w := wN M0 c t T) (u := me c t T) (by unfold nN; omega) (by unfold nN; omega) (by rw [← hn1]; exact me_Cn hc t) (fun i hi => ⟨m81 i (by omega), by have := (hin i hi).1; omega⟩) (fun i j hi hj he => me_inj (by omega) (by omega) he) (fun p q h1 h2 => by have hlt := me_lt (c := c) (g := t) (T := T) h1 (by omega); have hq := (hin q h2).1; rw [k81 _ (by omega)]; rcases hd3 (me c t T p) (me c t T q) hlt hq with h | h; (exact Or.inl ⟨h.1, h.2, (wN_bd hG p q h1 (by omega) h.1).1, (wN_bd hG p q h1 (by omega) h.1).2⟩); exact Or.inr ⟨h.1, h.2⟩)) mX0_63 dX0_close_84 lay_19 ?_
                  rintro r M5 ⟨rfl, k84, f84, n84, a84, b84, v84, o84⟩
                  refine ev_iinc dX0_close_87 rfl (by decide) ?_
                  refine ev_ls [some (vR _), some (vR _), some (vI _), some (vR _), some (vI _), none] rfl ?_
                  refine ev_goto 58 dX0_close_90 ?_
                  have q19 : M4 19 = M3 19 := k81 19 (by omega)
                  have hot : ∀ g, g ≠ t → ∀ i, i < (ml c g T).length → M5 (21 + me c g T i) = M3 (21 + me c g T i) := fun g hg i hi => by have hm := me_in hi; rw [o84 (me c g T i) (by omega) (fun j hj q => by have h2 := (hin j hj).2; rw [q, hm.2] at h2; exact hg h2), k81 _ (by have := hm.1; omega)]
                  refine ihl3 (t + 1) M5 (by omega) (by omega) (fun k hk => by rw [k84 k (by omega) (by omega) (by omega), k81 k (by omega)]; exact hk3 k hk) ?_ ?_ (fun g hg h1 i hi => by rw [hot g (by omega) i hi]; exact hz3 g (by omega) h1 i hi) (fun q hq => by rw [k84 38 (by omega) (by omega) (by omega), k81 38 (by omega)]; exact hv3 q hq) (fun x z h1 h2 => by rw [k84 _ (by omega) (by omega) (by omega), k81 _ (by omega)]; exact hd3 x z h1 h2)
                  · unfold CS; rw [f84 1 (by omega) (by omega) (by omega), f84 4 (by omega) (by omega) (by omega), q19]; exact hs3
                  refine ⟨?_, ?_, ?_, ?_, ?_⟩
                  · rw [n84, q19, hco3.1]; show _ = _ + (if 1 < (ml c t T).length then (1 : Int) else 0); rw [if_pos (by omega)]
                  · rw [f84 3 (by omega) (by omega) (by omega), q19, hco3.2.1]; show _ = _ + (if (ml c (c t) T).length = 1 then (1 : Int) else 0); rw [if_neg (by rw [ect]; exact hone), Int.add_zero]
                  · rw [a84, q19, hco3.2.2.1, hco3.2.2.2.1]; show _ = (if c t = t then _ else _); rw [if_pos ect]; rfl
                  · rw [b84, q19, hco3.2.2.2.1]; show _ = (if c t = t then _ else _); rw [if_pos ect]; rfl
                  · intro g hg hcg i hi
                    by_cases z : g = t
                    · subst z; exact v84 i (by omega)
                    · rw [hot g z i hi]; exact hco3.2.2.2.2 g (by omega) hcg i hi
        exact l3 (T + 1) 0 M1 (by omega) (by omega) hk1 hs1 ⟨hz1.1.1, hz1.1.2.1, hz1.1.2.2.1, hz1.1.2.2.2, fun g hg => by omega⟩ (fun g _ hg i hi => hz1.2 _ (by have := (me_in hi).1; omega)) hv1 (fun x z h1 h2 => hd1 x z h1 (Or.inl h2))
      · refine ev_iconst dX0_close_13 ?_
        refine ev_istore dX0_close_14 (by decide) ?_
        refine ev_ls [some (vR _), some (vR _), some (vI _), some (vR _), some (vI _), some (vI _)] rfl ?_
        have l2 : ∀ (m2 : Nat) (a : Nat) (M2 : Mem) (g : Nat → Nat), b < a + m2 → a ≤ b → (∀ k, (k < 18 ∨ 50 ≤ k) → M2 k = M k) → (∀ t, t < 8 → M2 38 t = (g t : Int) ∧ g t < 8) → LabQ (eD M0) T (fun x z => z < b ∨ (z = b ∧ x < a)) g → (M2 19 1 = sm b (fun b => sm b (fun a => cif (eD M0 a b) 1 0)) + sm a (fun a => cif (eD M0 a b) 1 0) ∧ M2 19 4 = sm b (fun b => sm b (fun a => sqD M0 a b)) + sm a (fun a => sqD M0 a b)) → SA M2 → DT M0 M2 a b → Em l yX0_close cX0_close 6 none 4 108 (fun r M' => r = none ∧ (∀ k, (k < 18 ∨ 50 ≤ k) → M' k = M k) ∧ CS M0 M' T ∧ CO M0 M' c T T) 16 [some (vR 19), some (vR 1), some (vI (T : Int)), some (vR 18), some (vI (b : Int)), some (vI (a : Int))] [] M2 := by
          intro m2
          induction m2 with
          | zero => intro a M2 g h3 h4 hk2 hg2 hl2 hs2 hz2 hd2; omega
          | succ m2 ihl2 =>
            intro a M2 g h3 h4 hk2 hg2 hl2 hs2 hz2 hd2
            refine ev_iload dX0_close_16 rfl ?_
            refine ev_iload dX0_close_18 rfl ?_
            refine ev_icmp_ge 49 dX0_close_20 (by omega) (by omega) (fun c2 => ?_) (fun c2 => ?_)
            · have et : b = a := by omega
              subst et
              refine ev_iinc dX0_close_49 rfl (by decide) ?_
              refine ev_ls [some (vR _), some (vR _), some (vI _), some (vR _), some (vI _), some (vI _)] rfl ?_
              refine ev_goto 7 dX0_close_52 ?_
              refine ev_mask [true, true, true, true, true, false] ?_
              refine ihl1 (b + 1) M2 g (by omega) (by omega) hk2 hg2 (lab_congr hl2 (fun x z h1 h2 _ => by omega)) hs2 hz2 (fun x z h1 h2 => hd2 x z h1 (by omega))
            · have hE2 : EN M0 M2 := hE.of (fun k hk => hk2 k (by omega))
              refine ev_aload_n dX0_close_23 rfl ?_
              refine ev_iload dX0_close_24 rfl ?_
              refine ev_iload dX0_close_26 rfl ?_
              refine ev_aload_n dX0_close_28 rfl ?_
              refine ev_aload_n dX0_close_29 rfl ?_
              refine ev_iload dX0_close_30 rfl ?_
              refine en_trk a dX0_close_32 (by omega) (by omega) ?_
              refine ev_aload_n dX0_close_33 rfl ?_
              refine ev_iload dX0_close_34 rfl ?_
              refine en_trk b dX0_close_36 (by omega) (by omega) ?_
              refine em_V2 (c_diff l (i := a) (j := b) hE2 hG (by omega) (by omega)) mX0_49 dX0_close_37 lay_18 ?_
              rintro r M3 ⟨k37, ⟨ne37, rfl⟩ | ⟨ed37, rfl⟩⟩
              · have hq : ∀ x z, x < z → z < T → eD M0 x z → ((z < b ∨ (z = b ∧ x < a)) ↔ (z < b ∨ (z = b ∧ x < a + 1))) := fun x z h1 h2 h3 => ⟨fun q => by omega, fun q => by by_cases e : z = b ∧ x = a; (rw [e.1, e.2] at h3; exact absurd h3 ne37); omega⟩
                refine em_V3 (c_takeNo l (a := a) (b := b) (by omega) (by omega)) mX0_55 dX0_close_40 lay_19 ?_
                rintro r M4 ⟨rfl, rfl⟩
                refine ev_iinc dX0_close_43 rfl (by decide) ?_
                refine ev_ls [some (vR _), some (vR _), some (vI _), some (vR _), some (vI _), some (vI _)] rfl ?_
                refine ev_goto 16 dX0_close_46 ?_
                refine ihl2 (a + 1) _ g (by omega) (by omega) (fun k hk => by rw [up2_row _ _ _ _ (by omega), k37 k (by omega)]; exact hk2 k hk) (fun t ht => by rw [up2_row _ _ _ _ (by omega), k37 38 (by omega)]; exact hg2 t ht) (lab_congr hl2 hq) ?_ ?_ ?_
                · rw [up2_row _ _ _ _ (by omega), k37 19 (by omega), hs2.1, hs2.2]; exact ⟨by show _ = _ + (_ + cif (eD M0 a b) 1 0); rw [cif_neg ne37, Int.add_zero], by show _ = _ + (_ + sqD M0 a b); unfold sqD; rw [cif_neg ne37, Int.add_zero]⟩
                · unfold SA; rw [up2_row _ _ _ _ (by omega), k37 19 (by omega)]; exact ⟨hz2.1, fun t ht => by rw [up2_row _ _ _ _ (by omega), k37 _ (by omega)]; exact hz2.2 t ht⟩
                · intro x z h1 h2
                  by_cases e : x = a ∧ z = b
                  · rw [e.1, e.2]; exact Or.inr ⟨ne37, by rw [up2_same]⟩
                  · rw [up2_ne _ _ _ _ (by omega), k37 _ (by omega)]; exact hd2 x z h1 (by omega)
              · have hwb := wD_bd hG (show a < T by omega) (show b < T by omega) ed37
                refine em_V3 (c_take l (a := a) (b := b) (f := g) (by omega) (by omega) hwb (fun t ht => by rw [k37 38 (by omega)]; exact hg2 t ht)) mX0_55 dX0_close_40 lay_19 ?_
                rintro r M4 ⟨rfl, k40, d40, n40, s40, f40, v40⟩
                refine ev_iinc dX0_close_43 rfl (by decide) ?_
                refine ev_ls [some (vR _), some (vR _), some (vI _), some (vR _), some (vI _), some (vI _)] rfl ?_
                refine ev_goto 16 dX0_close_46 ?_
                refine ihl2 (a + 1) M4 (rel g (g a) (g b)) (by omega) (by omega) (fun k hk => by rw [k40 k (by omega) (by omega) (by omega), k37 k (by omega)]; exact hk2 k hk) (fun t ht => ⟨v40 t ht, rel_lt (hg2 t ht).2 (hg2 a (by omega)).2 (hg2 b (by omega)).2⟩) (lab_congr (lab_rel hl2 (show a < b by omega) (by omega) ed37) (fun x z h1 h2 _ => by omega)) ?_ ?_ ?_
                · rw [n40, s40, k37 19 (by omega), hs2.1, hs2.2]; exact ⟨by show _ = _ + (_ + cif (eD M0 a b) 1 0); rw [cif_pos ed37, Int.add_assoc], by show _ = _ + (_ + sqD M0 a b); unfold sqD; rw [cif_pos ed37, Int.add_assoc]⟩
                · unfold SA; rw [f40 2 (by omega) (by omega), f40 3 (by omega) (by omega), f40 10 (by omega) (by omega), f40 11 (by omega) (by omega), k37 19 (by omega)]; exact ⟨hz2.1, fun t ht => by rw [k40 _ (by omega) (by omega) (by omega), k37 _ (by omega)]; exact hz2.2 t ht⟩
                · intro x z h1 h2
                  by_cases e : x = a
                  · subst e; rw [d40 z]; by_cases e2 : z = b
                    · subst e2; rw [if_pos rfl]; exact Or.inl ⟨ed37, rfl⟩
                    · rw [if_neg e2, k37 _ (by omega)]; exact hd2 x z h1 (by omega)
                  · rw [k40 _ (by omega) (by omega) (by omega), k37 _ (by omega)]; exact hd2 x z h1 (by omega)
        exact l2 (b + 1) 0 M1 f (by omega) (by omega) hk1 hf1 (lab_congr hl1 (fun x z h1 h2 _ => by omega)) ⟨by rw [hs1.1]; exact (Int.add_zero _).symm, by rw [hs1.2]; exact (Int.add_zero _).symm⟩ hz1 (fun x z h1 h2 => hd1 x z h1 (by omega))
  refine ev_aload_n dX0_close_0 rfl ?_
  refine em_V0 (c_startAnew l) mX0_46 dX0_close_1 lay_19 ?_
  rintro r M1 ⟨rfl, k1, f1, v1⟩
  refine ev_iconst dX0_close_4 ?_
  refine ev_istore dX0_close_5 (by decide) ?_
  refine ev_ls [some (vR _), some (vR _), some (vI _), some (vR _), some (vI _), none] rfl ?_
  exact l1 (T + 1) 0 M1 (fun t => t) (by omega) (by omega) (fun k hk => k1 k (by omega) (by omega) (by omega)) (fun t ht => ⟨(v1 t ht).1, ht⟩) (lab_congr (lab_id (eD M0) T) (fun x z _ _ _ => ⟨fun q => q.elim, fun q => by omega⟩)) ⟨f1.1, f1.2.2.2.1⟩ ⟨⟨f1.2.1, f1.2.2.1, f1.2.2.2.2.1, f1.2.2.2.2.2⟩, fun t ht => (v1 t ht).2⟩ (fun x z h1 h2 => by omega)
set_option maxRecDepth 100000 in
set_option maxHeartbeats 4000000 in
theorem c_squaresLeft (l : Launch) {M : Mem} (h1 : 0 < M 19 11 ∧ M 19 11 < 9223372036854775808) (h2 : -9223372036854775808 < M 19 4 * M 19 11 - M 19 10 ∧ M 19 4 * M 19 11 - M 19 10 < 9223372036854775808) : Cm l yX0_squaresLeft cX0_squaresLeft 1 (some .long) 1 25 [vR 19] M (rL ((M 19 4 * M 19 11 - M 19 10) / M 19 11) M) := by
  refine cmo [some (vR 19)] ?_
  refine ev_aload_n dX0_squaresLeft_0 rfl ?_
  refine em_getL fX0_43.g dX0_squaresLeft_1 lay_19 rfl ?_
  refine ev_lconst0 dX0_squaresLeft_4 ?_
  refine ev_lcmp_gt 11 dX0_squaresLeft_5 dX0_squaresLeft_6 (by omega) (by omega) (fun c5 => ?_) (fun c5 => ?_)
  · refine ev_aload_n dX0_squaresLeft_11 rfl ?_
    refine em_getL fX0_67.g dX0_squaresLeft_12 lay_19 rfl ?_
    refine ev_aload_n dX0_squaresLeft_15 rfl ?_
    refine em_getL fX0_43.g dX0_squaresLeft_16 lay_19 rfl ?_
    refine ev_lmul dX0_squaresLeft_19 ?_
    refine ev_aload_n dX0_squaresLeft_20 rfl ?_
    refine em_getL fX0_39.g dX0_squaresLeft_21 lay_19 rfl ?_
    refine ev_lsub dX0_squaresLeft_24 ?_
    refine ev_aload_n dX0_squaresLeft_25 rfl ?_
    refine em_getL fX0_43.g dX0_squaresLeft_26 lay_19 rfl ?_
    refine em_S2 (c_fdL l _ (by omega) (by omega) (by omega)) mX0_70 dX0_squaresLeft_29 ?_
    rintro r M ⟨rfl, rfl⟩
    first | (exfalso; omega) | exact em_lret dX0_squaresLeft_32 ⟨rfl, rfl⟩
  · refine ev_lconst0 dX0_squaresLeft_9 ?_
    first | (exfalso; omega) | exact em_lret dX0_squaresLeft_10 ⟨rfl, rfl⟩
