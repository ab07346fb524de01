theorem sum_me (F : Nat → Int) (c : Nat → Nat) (g : Nat) : ∀ T, sm T (fun o => if c o = g then F o else 0) = sm (ml c g T).length (fun i => F (me c g T i))
  | 0 => rfl
  | T + 1 => by
    show sm T _ + (if c T = g then F T else 0) = _
    rw [sum_me F c g T]
    by_cases h : c T = g
    · have hn := me_new h
      rw [if_pos h, hn.1]
      show _ = sm (ml c g T).length (fun i => F (me c g (T + 1) i)) + F (me c g (T + 1) (ml c g T).length)
      rw [hn.2]
      congr 1
      exact sm_congr (fun i hi => by rw [me_stable hi])
    · rw [if_neg h, ml_skip h, Int.add_zero]
      exact sm_congr (fun i hi => by rw [me_stable hi])
abbrev nN (c : Nat → Nat) (g T : Nat) : Nat := (ml c g T).length - 1
noncomputable def xN (M0 : Mem) (c : Nat → Nat) (g T o : Nat) : Nat → Int := Xo (eN M0 c g T) (wN M0 c g T) (nN c g T) o
noncomputable def dN (M0 : Mem) (c : Nat → Nat) (g T o : Nat) : Int := Do (eN M0 c g T) (nN c g T) o
/-- the model's offs stand for the nets below t -/
def OM (M0 M : Mem) (c : Nat → Nat) (T t : Nat) : Prop := ∀ g, g < t → c g = g → ∀ i, i < (ml c g T).length → M 61 (me c g T i) = xN M0 c g T 1 i ∧ M 62 (me c g T i) = dN M0 c g T 1
def FO (M M' : Mem) : Prop := (∀ k, k ≠ 53 → k ≠ 58 → k ≠ 59 → k ≠ 60 → k ≠ 61 → k ≠ 62 → M' k = M k) ∧ (∀ f, f ≠ 6 → f ≠ 7 → f ≠ 8 → f ≠ 9 → f ≠ 10 → M' 53 f = M 53 f)
theorem FO.en {M0 M M' : Mem} (h : FO M M') (hE : EN M0 M) : EN M0 M' := hE.of (fun k hk => h.1 k (by omega) (by omega) (by omega) (by omega) (by omega) (by omega))
theorem FO.n {M M' : Mem} (h : FO M M') : M' 53 0 = M 53 0 := h.2 0 (by omega) (by omega) (by omega) (by omega) (by omega)
theorem FO.fn {M M' : Mem} (h : FN M M') : FO M M' := ⟨fun k h1 h2 _ _ _ _ => h.1 k h1 h2, h.2⟩
theorem FO.fs {M M' M'' : Mem} (h : FO M M') (h' : FS M' M'') : FO M M'' := ⟨fun k h1 h2 h3 h4 h5 h6 => (h'.1 k h1 h3 h4 h5 h6).trans (h.1 k h1 h2 h3 h4 h5 h6), fun f a b c d e => (h'.2 f a b c d e).trans (h.2 f a b c d e)⟩
theorem FO.fr {M M' M'' : Mem} (h : FO M M') (h' : FR M' M'') : FO M M'' := ⟨fun k h1 h2 h3 h4 h5 h6 => (h'.1 k h1).trans (h.1 k h1 h2 h3 h4 h5 h6), fun f a b c d e => (h'.2 f a b c d e).trans (h.2 f a b c d e)⟩
theorem nN_le (c : Nat → Nat) (g : Nat) {T : Nat} (h : T ≤ 8) : nN c g T ≤ 7 := by have := ml_len c g T; unfold nN; omega
/-- the ranges of a net's numbers -/
theorem xN_bd {M0 : Mem} {T : Nat} {c : Nat → Nat} (hG : GT M0 T) (hc : Lab (eD M0) T c) {g : Nat} (hl : 0 < (ml c g T).length) {o : Nat} (ho : o ≤ 1) : (∀ i, i < (ml c g T).length → -8070721400000 ≤ xN M0 c g T o i ∧ xN M0 c g T o i ≤ 8070721400000) ∧ 0 < dN M0 c g T o ∧ dN M0 c g T o ≤ 7 ^ nN c g T ∧ dN M0 c g T o ≤ 823543 ∧ Cn (eN M0 c g T) (nN c g T + 1) ∧ Sol (eN M0 c g T) (wN M0 c g T) (nN c g T) (dN M0 c g T o) (xN M0 c g T o) := by
  have h7 := nN_le c g hG.1
  have e1 : nN c g T + 1 = (ml c g T).length := by unfold nN; omega
  have hC : Cn (eN M0 c g T) (nN c g T + 1) := by rw [e1]; exact me_Cn hc g
  have hA : MM (nN c g T) (Ao (eN M0 c g T) (nN c g T) o) := La_MM hC h7 ho
  have hw : ∀ a b, a < b → b < nN c g T + 1 → eN M0 c g T a b → -200000 ≤ wN M0 c g T a b ∧ wN M0 c g T a b ≤ 200000 := by rw [e1]; exact wN_bd hG
  have hb : ∀ q, q < nN c g T → -1400000 ≤ bo (eN M0 c g T) (wN M0 c g T) (nN c g T) o q ∧ bo (eN M0 c g T) (wN M0 c g T) (nN c g T) o q ≤ 1400000 := fun q hq => bb_bd (by omega) hw (by omega)
  have d1 := D_pos hA (Nat.le_refl (nN c g T))
  have d2 := D_le hA (nN c g T) (Nat.le_refl _)
  have d3 := p7' h7
  have g1 := g7 h7
  refine ⟨fun i hi => ?_, d1, d2, Int.le_trans d2 d3, hC, Xo_sol _ _ ho⟩
  rcases gr_cases ho (show i < nN c g T + 1 by omega) with q | ⟨r, hr, q⟩
  · unfold xN; rw [q, Xo_gr]; omega
  · have := Gb_bd hA h7 hb (nN c g T) (Nat.le_refl _) r hr
    unfold xN; rw [q, Xo_at ho hr]; omega
set_option maxRecDepth 100000 in
set_option maxHeartbeats 4000000 in
theorem d_offs (l : Launch) {M0 M : Mem} {T : Nat} {c : Nat → Nat} (hE : EN M0 M) (hG : GT M0 T) (hT : M 53 0 = (T : Int)) (hc : Lab (eD M0) T c) : Cm l yX6_offs cX6_offs 2 none 4 109 [vR 53] M (fun r M' => r = none ∧ FO M M' ∧ (∀ t, t < T → M' 58 t = (c t : Int)) ∧ OM M0 M' c T T) := by
  refine cmo [some (vR 53), none] ?_
  have h8 := hG.1
  have lp : ∀ (m1 : Nat) (t : Nat) (M2 : Mem), T < t + m1 → t ≤ T → FO M M2 → (∀ q, q < T → M2 58 q = (c q : Int)) → OM M0 M2 c T t → Em l yX6_offs cX6_offs 2 none 4 109 (fun r M' => r = none ∧ FO M M' ∧ (∀ t, t < T → M' 58 t = (c t : Int)) ∧ OM M0 M' c T T) 6 [some (vR 53), some (vI (t : Int))] [] M2 := by
    intro m1
    induction m1 with
    | zero => intro t M2 h1 h2 hF2 hv2 hO2; omega
    | succ m1 ihlp =>
      intro t M2 h1 h2 hF2 hv2 hO2
      have hN : M2 53 0 = (T : Int) := by rw [hF2.n]; exact hT
      have hE2 := hF2.en hE
      refine ev_iload_n dX6_offs_6 rfl ?_
      refine ev_aload_n dX6_offs_7 rfl ?_
      refine em_getI fX6_40.g dX6_offs_8 lay_53 rfl ?_
      refine ev_icmp_ge 35 dX6_offs_11 (by omega) (by omega) (fun c1 => ?_) (fun c1 => ?_)
      · have et : T = t := by omega
        subst et
        exact em_vret dX6_offs_35 ⟨rfl, hF2, hv2, hO2⟩
      · have hvt := hv2 t (by omega)
        have hct := hc.2.1 t (by omega)
        refine ev_aload_n dX6_offs_14 rfl ?_
        refine em_getR fX6_23.g dX6_offs_15 lay_53 rfl ?_
        refine ev_iload_n dX6_offs_18 rfl ?_
        refine en_iald t dX6_offs_19 lay_58 (by omega) (by omega) ?_
        refine ev_iload_n dX6_offs_20 rfl ?_
        refine ev_icmp_ne 29 dX6_offs_21 (by omega) (by omega) (fun c21 => ?_) (fun c21 => ?_)
        · have ect : ¬ c t = t := by omega
          refine ev_iinc dX6_offs_29 rfl (by decide) ?_
          refine ev_ls [some (vR _), some (vI _)] rfl ?_
          refine ev_goto 6 dX6_offs_32 ?_
          exact ihlp (t + 1) M2 (by omega) (by omega) hF2 hv2 (fun g hg hcg i hi => hO2 g (by by_cases e : g = t; (subst e; exact absurd hcg ect); omega) hcg i hi)
        · have ect : c t = t := by omega
          have hz := me_zero hc (show t < T by omega) ect
          refine ev_aload_n dX6_offs_24 rfl ?_
          refine ev_iload_n dX6_offs_25 rfl ?_
          refine em_V1 (d_solves l (n := nN c t T) (g := t) hE2 hG hN hc hv2 (by omega) (by unfold nN; omega)) mX6_137 dX6_offs_26 lay_53 ?_
          rintro r M3 ⟨rfl, hF26, x26, o26⟩
          refine ev_iinc dX6_offs_29 rfl (by decide) ?_
          refine ev_ls [some (vR _), some (vI _)] rfl ?_
          refine ev_goto 6 dX6_offs_32 ?_
          refine ihlp (t + 1) M3 (by omega) (by omega) (hF2.fs hF26) (fun q hq => by rw [hF26.net]; exact hv2 q hq) ?_
          intro g hg hcg i hi
          by_cases e : g = t
          · subst e; exact x26 i (by unfold nN; omega)
          · have hmi := me_in hi
            have ho := o26 (me c g T i) (fun j hj q => by have := me_in (c := c) (g := t) (T := T) (i := j) (by unfold nN at hj; omega); rw [q, hmi.2] at this; omega)
            rw [ho.1, ho.2]; exact hO2 g (by omega) hcg i hi
  refine ev_aload_n dX6_offs_0 rfl ?_
  refine em_V0 (d_nets l hE hG hT hc) mX6_122 dX6_offs_1 lay_53 ?_
  rintro r M1 ⟨rfl, hF1, hv1⟩
  refine ev_iconst dX6_offs_4 ?_
  refine ev_istore_n dX6_offs_5 (by decide) ?_
  refine ev_ls [some (vR _), some (vI _)] rfl ?_
  exact lp (T + 1) 0 M1 (by omega) (by omega) (FO.fn hF1) hv1 (fun g hg => by omega)
set_option maxRecDepth 100000 in
set_option maxHeartbeats 4000000 in
theorem d_offOf (l : Launch) {M0 M : Mem} {T t : Nat} {c : Nat → Nat} (hG : GT M0 T) (hT : M 53 0 = (T : Int)) (hc : Lab (eD M0) T c) (hv : ∀ t, t < T → M 58 t = (c t : Int)) (hO : OM M0 M c T T) (ht : t < T) : Cm l yX6_offOf cX6_offOf 6 none 1 23 [vR 53, vI (t : Int)] M (fun r M' => r = none ∧ (∀ k, k ≠ 53 → M' k = M k) ∧ (∀ f, f ≠ 16 → f ≠ 17 → M' 53 f = M 53 f) ∧ ∃ i, i < (ml c (c t) T).length ∧ me c (c t) T i = t ∧ M' 53 16 = offA (nN c (c t) T) (xN M0 c (c t) T 1) i ∧ M' 53 17 = ((nN c (c t) T + 1 : Nat) : Int) * dN M0 c (c t) T 1) := by
  refine cmo [some (vR 53), some (vI (t : Int)), none, none, none, none] ?_
  have h8 := hG.1
  have hct := hc.2.1 t ht
  have hcc := lab_idem hc ht
  have hct2 : c t < T := by omega
  obtain ⟨i, hi, hit⟩ := me_ex (c := c) (g := c t) (T := T) ht rfl
  have hx := hO (c t) hct2 hcc i hi
  rw [hit] at hx
  have hbd := xN_bd hG hc (g := c t) (by omega) (o := 1) (by omega)
  have hxi := hbd.1 i hi
  have hml := ml_len c (c t) T
  have hlen : ((ml c (c t) T).length : Int) = cntN (M 58) (c t : Int) T := by rw [ml_cnt]; exact sm_congr (fun q hq => by show (if c q = c t then (1 : Int) else 0) = if M 58 q = (c t : Int) then 1 else 0; rw [hv q hq]; by_cases e : c q = c t; (rw [if_pos e, if_pos (by omega)]); (rw [if_neg e, if_neg (by omega)]))
  have hsum : sm T (fun q => if c q = c t then M 61 q else 0) = sm (ml c (c t) T).length (xN M0 c (c t) T 1) := by rw [sum_me (fun q => M 61 q)]; exact sm_congr (fun j hj => (hO (c t) hct2 hcc j hj).1)
  have hvt := hv t ht
  have lp : ∀ (m1 : Nat) (q : Nat), T < q + m1 → q ≤ T → Em l yX6_offOf cX6_offOf 6 none 1 23 (fun r M' => r = none ∧ (∀ k, k ≠ 53 → M' k = M k) ∧ (∀ f, f ≠ 16 → f ≠ 17 → M' 53 f = M 53 f) ∧ ∃ i, i < (ml c (c t) T).length ∧ me c (c t) T i = t ∧ M' 53 16 = offA (nN c (c t) T) (xN M0 c (c t) T 1) i ∧ M' 53 17 = ((nN c (c t) T + 1 : Nat) : Int) * dN M0 c (c t) T 1) 5 [some (vR 53), some (vI (t : Int)), some (vL (sm q (fun q => if c q = c t then M 61 q else 0))), none, some (vI (q : Int)), none] [] M := by
    intro m1
    induction m1 with
    | zero => intro q h1 h2; omega
    | succ m1 ihlp =>
      intro q h1 h2
      refine ev_iload dX6_offOf_5 rfl ?_
      refine ev_aload_n dX6_offOf_7 rfl ?_
      refine em_getI fX6_40.g dX6_offOf_8 lay_53 rfl ?_
      refine ev_icmp_ge 50 dX6_offOf_11 (by omega) (by omega) (fun c1 => ?_) (fun c1 => ?_)
      · have eq : T = q := by omega
        subst eq
        refine ev_aload_n dX6_offOf_50 rfl ?_
        refine ev_aload_n dX6_offOf_51 rfl ?_
        refine em_getR fX6_23.g dX6_offOf_52 lay_53 rfl ?_
        refine ev_iload_n dX6_offOf_55 rfl ?_
        refine en_iald t dX6_offOf_56 lay_58 (by omega) (by omega) ?_
        rw [hvt]
        refine em_V1 (d_members l (c := (c t : Int)) h8 hT (by omega) (fun u hu => by have := hv u hu; have := hc.2.1 u hu; omega)) mX6_125 dX6_offOf_57 lay_53 ?_
        rintro r M ⟨rfl, rfl⟩
        rw [← hlen]
        refine ev_i2l dX6_offOf_60 (by omega) ?_
        refine ev_lstore dX6_offOf_61 (by decide) ?_
        refine ev_ls [some (vR _), some (vI _), some (vL _), none, some (vL _), none] rfl ?_
        refine ev_aload_n dX6_offOf_63 rfl ?_
        refine ev_lload dX6_offOf_64 rfl ?_
        refine ev_aload_n dX6_offOf_66 rfl ?_
        refine em_getR fX6_33.g dX6_offOf_67 lay_53 rfl ?_
        refine ev_iload_n dX6_offOf_70 rfl ?_
        refine en_lald t dX6_offOf_71 lay_61 (by omega) (by omega) ?_
        refine ev_lmul dX6_offOf_72 ?_
        refine ev_lload_n dX6_offOf_73 rfl ?_
        refine ev_lsub dX6_offOf_74 ?_
        refine em_putL fX6_141 dX6_offOf_75 lay_53 rfl ?_
        refine ev_aload_n dX6_offOf_78 rfl ?_
        refine ev_lload dX6_offOf_79 rfl ?_
        refine ev_aload_n dX6_offOf_81 rfl ?_
        refine em_getR fX6_36.g dX6_offOf_82 lay_53 rfl ?_
        refine ev_iload_n dX6_offOf_85 rfl ?_
        refine en_lald t dX6_offOf_86 lay_62 (by omega) (by omega) ?_
        refine ev_lmul dX6_offOf_87 ?_
        refine em_putL fX6_144 dX6_offOf_88 lay_53 rfl ?_
        have hen : ((nN c (c t) T + 1 : Nat) : Int) = ((ml c (c t) T).length : Int) := by unfold nN; omega
        exact em_vret dX6_offOf_91 ⟨rfl, fun k hk => by rw [up2_row _ _ _ _ hk, up2_row _ _ _ _ hk], fun f h1 h2 => by rw [up2_ne _ _ _ _ (Or.inr h2), up2_ne _ _ _ _ (Or.inr h1)], i, hi, hit, by rw [up2_ne _ _ _ _ (Or.inr (by omega)), up2_same, hx.1, hsum]; unfold offA; rw [hen, show nN c (c t) T + 1 = (ml c (c t) T).length by unfold nN; omega], by rw [up2_same, up2_row _ _ _ _ (by omega), hx.2, hen]⟩
      · have hvq := hv q (by omega)
        have hcq := hc.2.1 q (by omega)
        refine ev_lload_n dX6_offOf_14 rfl ?_
        refine ev_aload_n dX6_offOf_15 rfl ?_
        refine em_getR fX6_23.g dX6_offOf_16 lay_53 rfl ?_
        refine ev_iload dX6_offOf_19 rfl ?_
        refine en_iald q dX6_offOf_21 lay_58 (by omega) (by omega) ?_
        refine ev_aload_n dX6_offOf_22 rfl ?_
        refine em_getR fX6_23.g dX6_offOf_23 lay_53 rfl ?_
        refine ev_iload_n dX6_offOf_26 rfl ?_
        refine en_iald t dX6_offOf_27 lay_58 (by omega) (by omega) ?_
        refine ev_icmp_ne 41 dX6_offOf_28 (by omega) (by omega) (fun c28 => ?_) (fun c28 => ?_)
        · refine ev_lconst0 dX6_offOf_41 ?_
          refine ev_ladd dX6_offOf_42 ?_
          refine ev_lstore_n dX6_offOf_43 (by decide) ?_
          refine ev_ls [some (vR _), some (vI _), some (vL _), none, some (vI _), none] rfl ?_
          refine ev_iinc dX6_offOf_44 rfl (by decide) ?_
          refine ev_ls [some (vR _), some (vI _), some (vL _), none, some (vI _), none] rfl ?_
          refine ev_goto 5 dX6_offOf_47 ?_
          first | (rw [smS (n := q) (f := fun q => if c q = c t then M 61 q else 0) (x := M 61 q) (if_pos (by omega))]; exact ihlp (q + 1) (by omega) (by omega)) | (rw [smS (n := q) (f := fun q => if c q = c t then M 61 q else 0) (x := 0) (if_neg (by omega))]; exact ihlp (q + 1) (by omega) (by omega))
        · refine ev_aload_n dX6_offOf_31 rfl ?_
          refine em_getR fX6_33.g dX6_offOf_32 lay_53 rfl ?_
          refine ev_iload dX6_offOf_35 rfl ?_
          refine en_lald q dX6_offOf_37 lay_61 (by omega) (by omega) ?_
          refine ev_goto 42 dX6_offOf_38 ?_
          refine ev_ladd dX6_offOf_42 ?_
          refine ev_lstore_n dX6_offOf_43 (by decide) ?_
          refine ev_ls [some (vR _), some (vI _), some (vL _), none, some (vI _), none] rfl ?_
          refine ev_iinc dX6_offOf_44 rfl (by decide) ?_
          refine ev_ls [some (vR _), some (vI _), some (vL _), none, some (vI _), none] rfl ?_
          refine ev_goto 5 dX6_offOf_47 ?_
          first | (rw [smS (n := q) (f := fun q => if c q = c t then M 61 q else 0) (x := M 61 q) (if_pos (by omega))]; exact ihlp (q + 1) (by omega) (by omega)) | (rw [smS (n := q) (f := fun q => if c q = c t then M 61 q else 0) (x := 0) (if_neg (by omega))]; exact ihlp (q + 1) (by omega) (by omega))
  refine ev_lconst0 dX6_offOf_0 ?_
  refine ev_lstore_n dX6_offOf_1 (by decide) ?_
  refine ev_ls [some (vR _), some (vI _), some (vL _), none, none, none] rfl ?_
  refine ev_iconst dX6_offOf_2 ?_
  refine ev_istore dX6_offOf_3 (by decide) ?_
  refine ev_ls [some (vR _), some (vI _), some (vL _), none, some (vI _), none] rfl ?_
  exact lp (T + 1) 0 (by omega) (by omega)
