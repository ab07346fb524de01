def cR (M0 : Mem) (t i : Nat) : Int := if M0 (2 + 2 * t + 1) i = 200000 then 0 else 1
def cH (M0 : Mem) (t : Nat) : Int := if M0 (2 + 2 * t) 6 = 0 then 0 else 1
def fCount (M0 : Mem) (T N : Nat) (w : Int) : Int := if w = 0 then (T : Int) else if w = 1 then sm T (fun t => sm 9 (cR M0 t)) else if w = 2 then (N : Int) else if w = 3 then sm T (cH M0) else -1
theorem sm_app (f : Nat → Int) (m : Nat) : ∀ n : Nat, sm (m + n) f = sm m f + sm n (fun i => f (m + i))
  | 0 => by show sm m f = sm m f + 0; omega
  | n + 1 => by
    show sm (m + n) f + f (m + n) = sm m f + (sm n (fun i => f (m + i)) + f (m + n))
    rw [sm_app f m n]; omega
theorem sm_nine (f : Nat → Int) : ∀ T : Nat, sm (9 * T) f = sm T (fun t => sm 9 (fun i => f (9 * t + i)))
  | 0 => rfl
  | T + 1 => by
    rw [show 9 * (T + 1) = 9 * T + 9 by omega, sm_app, sm_nine f T]; rfl
set_option maxRecDepth 100000 in
set_option maxHeartbeats 4000000 in
theorem c_countReadings (l : Launch) {M0 M : Mem} {T N : Nat} {c : Nat → Nat} (h : IV M0 T N c M) : Cm l yX5_countReadings cX5_countReadings 4 (some .int) 0 0 [vR 0] M (rI (sm T (fun t => sm 9 (cR M0 t))) M) := by
  refine cmo [some (vR 0), none, none, none] ?_
  have h8 := h.g.1
  have h5 := h.t5
  have h53 := h.t53
  have outer : ∀ (n : Nat) (t : Nat), T < t + n → t ≤ T → Em l yX5_countReadings cX5_countReadings 4 (some .int) 0 0 (rI (sm T (fun t => sm 9 (cR M0 t))) M) 4 [some (vR 0), some (vI (sm t (fun t => sm 9 (cR M0 t)))), some (vI (t : Int)), none] [] M := by
    intro n
    induction n with
    | zero => intro t h1 h2; omega
    | succ n ihouter =>
      intro t h1 h2
      refine ev_iload_n dX5_countReadings_4 rfl ?_
      refine ev_aload_n dX5_countReadings_5 rfl ?_
      refine em_getI fX5_44.g dX5_countReadings_6 lay_0 rfl ?_
      refine ev_icmp_ge 51 dX5_countReadings_9 (by omega) (by omega) (fun c1 => ?_) (fun c1 => ?_)
      · refine ev_iload_n dX5_countReadings_51 rfl ?_
        have et : t = T := by omega
        subst et
        exact em_iret dX5_countReadings_52 ⟨rfl, rfl⟩
      · have ht : t < T := by omega
        have hh := (h.g.2 t ht).1.2.2.2.2.2.2.2
        have eh := h.e.1 (2 + 2 * t + 1) (by omega) (by omega)
        refine ev_iconst dX5_countReadings_12 ?_
        refine ev_istore_n dX5_countReadings_13 (by decide) ?_
        refine ev_ls [some (vR _), some (vI _), some (vI _), some (vI _)] rfl ?_
        have inner : ∀ (m : Nat) (i : Nat), 9 < i + m → i ≤ 9 → Em l yX5_countReadings cX5_countReadings 4 (some .int) 0 0 (rI (sm T (fun t => sm 9 (cR M0 t))) M) 14 [some (vR 0), some (vI (sm t (fun t => sm 9 (cR M0 t)) + sm i (cR M0 t))), some (vI (t : Int)), some (vI (i : Int))] [] M := by
          intro m
          induction m with
          | zero => intro i h3 h4; omega
          | succ m ihinner =>
            intro i h3 h4
            refine ev_iload_n dX5_countReadings_14 rfl ?_
            refine ev_bipush dX5_countReadings_15 (by decide) ?_
            refine ev_icmp_ge 45 dX5_countReadings_17 (by omega) (by omega) (fun c2 => ?_) (fun c2 => ?_)
            · have ei : i = 9 := by omega
              subst ei
              refine ev_iinc dX5_countReadings_45 rfl (by decide) ?_
              refine ev_ls [some (vR _), some (vI _), some (vI _), some (vI _)] rfl ?_
              refine ev_goto 4 dX5_countReadings_48 ?_
              refine ev_mask [true, true, true, false] ?_
              exact ihouter (t + 1) (by omega) (by omega)
            · have hhi := hh i (by omega)
              refine ev_aload_n dX5_countReadings_20 rfl ?_
              refine em_getR fX5_11.g dX5_countReadings_21 lay_0 rfl ?_
              refine ev_iload_n dX5_countReadings_24 rfl ?_
              refine en_trk t dX5_countReadings_25 (by omega) (by omega) ?_
              refine em_getR fX5_73 dX5_countReadings_26 (lay_trk (i := t) (by omega)) rfl ?_
              refine ev_iload_n dX5_countReadings_29 rfl ?_
              refine en_iald i dX5_countReadings_30 (lay_hts (i := t) (by omega)) (by omega) (by omega) ?_
              rw [eh]
              refine ev_ldc (200000) kX5_68 dX5_countReadings_31 (by decide) ?_
              refine ev_icmp_eq 39 dX5_countReadings_33 (by omega) (by omega) (fun c33 => ?_) (fun c33 => ?_)
              · refine ev_iinc dX5_countReadings_39 rfl (by decide) ?_
                refine ev_ls [some (vR _), some (vI _), some (vI _), some (vI _)] rfl ?_
                refine ev_goto 14 dX5_countReadings_42 ?_
                have hst := ihinner (i + 1) (by omega) (by omega)
                rw [show sm (i + 1) (cR M0 t) = sm i (cR M0 t) + cR M0 t i from rfl] at hst
                first | (rw [show cR M0 t i = 1 from if_neg (by omega), ← Int.add_assoc] at hst; exact hst) | (rw [show cR M0 t i = 0 from if_pos (by omega), Int.add_zero] at hst; exact hst)
              · refine ev_iinc dX5_countReadings_36 rfl (by decide) ?_
                refine ev_ls [some (vR _), some (vI _), some (vI _), some (vI _)] rfl ?_
                refine ev_iinc dX5_countReadings_39 rfl (by decide) ?_
                refine ev_ls [some (vR _), some (vI _), some (vI _), some (vI _)] rfl ?_
                refine ev_goto 14 dX5_countReadings_42 ?_
                have hst := ihinner (i + 1) (by omega) (by omega)
                rw [show sm (i + 1) (cR M0 t) = sm i (cR M0 t) + cR M0 t i from rfl] at hst
                first | (rw [show cR M0 t i = 1 from if_neg (by omega), ← Int.add_assoc] at hst; exact hst) | (rw [show cR M0 t i = 0 from if_pos (by omega), Int.add_zero] at hst; exact hst)
        have hi0 := inner 10 0 (by omega) (by omega)
        rw [show sm 0 (cR M0 t) = 0 from rfl, Int.add_zero] at hi0
        exact hi0
  refine ev_iconst dX5_countReadings_0 ?_
  refine ev_istore_n dX5_countReadings_1 (by decide) ?_
  refine ev_ls [some (vR _), some (vI _), none, none] rfl ?_
  refine ev_iconst dX5_countReadings_2 ?_
  refine ev_istore_n dX5_countReadings_3 (by decide) ?_
  refine ev_ls [some (vR _), some (vI _), some (vI _), none] rfl ?_
  exact outer (T + 1) 0 (by omega) (by omega)
set_option maxRecDepth 100000 in
set_option maxHeartbeats 4000000 in
theorem c_countHeldOut (l : Launch) {M0 M : Mem} {T N : Nat} {c : Nat → Nat} (h : IV M0 T N c M) : Cm l yX5_countHeldOut cX5_countHeldOut 3 (some .int) 0 0 [vR 0] M (rI (sm T (cH M0)) M) := by
  refine cmo [some (vR 0), none, none] ?_
  have h8 := h.g.1
  have h5 := h.t5
  have h53 := h.t53
  have outer : ∀ (n : Nat) (t : Nat), T < t + n → t ≤ T → Em l yX5_countHeldOut cX5_countHeldOut 3 (some .int) 0 0 (rI (sm T (cH M0)) M) 4 [some (vR 0), some (vI (sm t (cH M0))), some (vI (t : Int))] [] M := by
    intro n
    induction n with
    | zero => intro t h1 h2; omega
    | succ n ihouter =>
      intro t h1 h2
      refine ev_iload_n dX5_countHeldOut_4 rfl ?_
      refine ev_aload_n dX5_countHeldOut_5 rfl ?_
      refine em_getI fX5_44.g dX5_countHeldOut_6 lay_0 rfl ?_
      refine ev_icmp_ge 33 dX5_countHeldOut_9 (by omega) (by omega) (fun c1 => ?_) (fun c1 => ?_)
      · refine ev_iload_n dX5_countHeldOut_33 rfl ?_
        have et : t = T := by omega
        subst et
        exact em_iret dX5_countHeldOut_34 ⟨rfl, rfl⟩
      · have ht : t < T := by omega
        have hh := (h.g.2 t ht).1.2.2.2.2.2.2.1
        have eh := h.e.1 (2 + 2 * t) (by omega) (by omega)
        refine ev_aload_n dX5_countHeldOut_12 rfl ?_
        refine em_getR fX5_11.g dX5_countHeldOut_13 lay_0 rfl ?_
        refine ev_iload_n dX5_countHeldOut_16 rfl ?_
        refine en_trk t dX5_countHeldOut_17 (by omega) (by omega) ?_
        refine em_getI fX5_77.g dX5_countHeldOut_18 (lay_trk (i := t) (by omega)) rfl ?_
        rw [eh]
        refine ev_if_eq 27 dX5_countHeldOut_21 (by omega) (fun c21 => ?_) (fun c21 => ?_)
        · refine ev_iinc dX5_countHeldOut_27 rfl (by decide) ?_
          refine ev_ls [some (vR _), some (vI _), some (vI _)] rfl ?_
          refine ev_goto 4 dX5_countHeldOut_30 ?_
          have hst := ihouter (t + 1) (by omega) (by omega)
          rw [show sm (t + 1) (cH M0) = sm t (cH M0) + cH M0 t from rfl] at hst
          first | (rw [show cH M0 t = 1 from if_neg (by omega)] at hst; exact hst) | (rw [show cH M0 t = 0 from if_pos (by omega), Int.add_zero] at hst; exact hst)
        · refine ev_iinc dX5_countHeldOut_24 rfl (by decide) ?_
          refine ev_ls [some (vR _), some (vI _), some (vI _)] rfl ?_
          refine ev_iinc dX5_countHeldOut_27 rfl (by decide) ?_
          refine ev_ls [some (vR _), some (vI _), some (vI _)] rfl ?_
          refine ev_goto 4 dX5_countHeldOut_30 ?_
          have hst := ihouter (t + 1) (by omega) (by omega)
          rw [show sm (t + 1) (cH M0) = sm t (cH M0) + cH M0 t from rfl] at hst
          first | (rw [show cH M0 t = 1 from if_neg (by omega)] at hst; exact hst) | (rw [show cH M0 t = 0 from if_pos (by omega), Int.add_zero] at hst; exact hst)
  refine ev_iconst dX5_countHeldOut_0 ?_
  refine ev_istore_n dX5_countHeldOut_1 (by decide) ?_
  refine ev_ls [some (vR _), some (vI _), none] rfl ?_
  refine ev_iconst dX5_countHeldOut_2 ?_
  refine ev_istore_n dX5_countHeldOut_3 (by decide) ?_
  refine ev_ls [some (vR _), some (vI _), some (vI _)] rfl ?_
  exact outer (T + 1) 0 (by omega) (by omega)
set_option maxRecDepth 100000 in
set_option maxHeartbeats 4000000 in
theorem c_count (l : Launch) {M0 M : Mem} {T N : Nat} {c : Nat → Nat} (h : IV M0 T N c M) {x : Int} (hx : i32 x) : Cm l yX5_count cX5_count 2 (some .int) 1 23 [vR 0, vI x] M (fun r M' => IV M0 T N c M' ∧ r = some (vI (fCount M0 T N x))) := by
  refine cmo [some (vR 0), some (vI x)] ?_
  have h8 := h.g.1
  have h5 := h.t5
  have h53 := h.t53
  by_cases q0 : x = 0
  · subst q0
    refine ev_iload_n dX5_count_0 rfl ?_
    refine ev_tabIn 32 dX5_count_1 (by omega) (by omega) (by omega) rfl ?_
    refine ev_aload_n dX5_count_32 rfl ?_
    refine em_getI fX5_44.g dX5_count_33 lay_0 rfl ?_
    exact em_iret dX5_count_36 ⟨h, by unfold fCount; rw [if_pos rfl]; rw [h5]⟩
  by_cases q1 : x = 1
  · subst q1
    refine ev_iload_n dX5_count_0 rfl ?_
    refine ev_tabIn 37 dX5_count_1 (by omega) (by omega) (by omega) rfl ?_
    refine ev_aload_n dX5_count_37 rfl ?_
    refine em_V0 (c_countReadings l h) mX5_182 dX5_count_38 lay_0 ?_
    rintro r M ⟨rfl, rfl⟩
    exact em_iret dX5_count_41 ⟨h, by unfold fCount; rw [if_neg (by omega), if_pos rfl]⟩
  by_cases q2 : x = 2
  · subst q2
    refine ev_iload_n dX5_count_0 rfl ?_
    refine ev_tabIn 42 dX5_count_1 (by omega) (by omega) (by omega) rfl ?_
    refine ev_aload_n dX5_count_42 rfl ?_
    refine em_getR fX5_33.g dX5_count_43 lay_0 rfl ?_
    refine em_getI fX5_145.g dX5_count_46 lay_50 rfl ?_
    exact em_iret dX5_count_49 ⟨h, by unfold fCount; rw [if_neg (by omega), if_neg (by omega), if_pos rfl]; rw [h.n50]⟩
  by_cases q3 : x = 3
  · subst q3
    refine ev_iload_n dX5_count_0 rfl ?_
    refine ev_tabIn 50 dX5_count_1 (by omega) (by omega) (by omega) rfl ?_
    refine ev_aload_n dX5_count_50 rfl ?_
    refine em_V0 (c_countHeldOut l h) mX5_186 dX5_count_51 lay_0 ?_
    rintro r M ⟨rfl, rfl⟩
    exact em_iret dX5_count_54 ⟨h, by unfold fCount; rw [if_neg (by omega), if_neg (by omega), if_neg (by omega), if_pos rfl]⟩
  refine ev_iload_n dX5_count_0 rfl ?_
  refine ev_tabOut 55 dX5_count_1 (by omega) (by omega) ?_
  refine ev_iconst dX5_count_55 ?_
  exact em_iret dX5_count_56 ⟨h, by unfold fCount; rw [if_neg (by omega), if_neg (by omega), if_neg (by omega), if_neg (by omega)]⟩
set_option maxRecDepth 100000 in
set_option maxHeartbeats 4000000 in
theorem d_count (l : Launch) {M0 M : Mem} {T N : Nat} {c : Nat → Nat} (h : IV M0 T N c M) {x : Int} (hx : i32 x) : Cm l yX6_count cX6_count 5 (some .int) 0 0 [vR 53, vI x] M (fun r M' => IV M0 T N c M' ∧ r = some (vI (fCount M0 T N x))) := by
  refine cmo [some (vR 53), some (vI x), none, none, none] ?_
  have h8 := h.g.1
  have h5 := h.t5
  have h53 := h.t53
  have e55 : M 55 = M0 55 := h.e.2.2.1
  have e56 : M 56 = M0 56 := h.e.2.2.2
  have hcl := fun t (ht : t < T) => (h.g.2 t ht).2.2.2.2.2.2.2.2
  have hdl := fun t (ht : t < T) => (h.g.2 t ht).2.2.2.2.2.2.2.1
  have hhg := fun t (ht : t < T) => (h.g.2 t ht).1.2.2.2.2.2.2.2
  have hho := fun t (ht : t < T) => (h.g.2 t ht).1.2.2.2.2.2.2.1
  have eG : sm (9 * T) (fun k => if M0 55 k = 200000 then (0 : Int) else 1) = sm T (fun t => sm 9 (cR M0 t)) := by
    rw [sm_nine]
    refine sm_congr (fun t ht => ?_)
    refine sm_congr (fun i hi => ?_)
    show (if M0 55 (9 * t + i) = 200000 then (0 : Int) else 1) = _
    rw [hcl t ht i hi]; rfl
  have eH : sm T (fun t => if M0 56 t = 0 then (0 : Int) else 1) = sm T (cH M0) := sm_congr (fun t ht => by show (if M0 56 t = 0 then (0 : Int) else 1) = _; rw [hdl t ht]; rfl)
  have second : ∀ (n : Nat) (t : Nat), T < t + n → t ≤ T → Em l yX6_count cX6_count 5 (some .int) 0 0 (fun r M' => IV M0 T N c M' ∧ r = some (vI (fCount M0 T N x))) 48 [some (vR 53), some (vI x), some (vI (sm (9 * T) (fun k => if M0 55 k = 200000 then (0 : Int) else 1))), some (vI (sm t (fun t => if M0 56 t = 0 then (0 : Int) else 1))), some (vI (t : Int))] [] M := by
    intro n
    induction n with
    | zero => intro t h1 h2; omega
    | succ n ihsecond =>
      intro t h1 h2
      refine ev_iload dX6_count_48 rfl ?_
      refine ev_aload_n dX6_count_50 rfl ?_
      refine em_getI fX6_40.g dX6_count_51 lay_53 rfl ?_
      refine ev_icmp_ge 81 dX6_count_54 (by omega) (by omega) (fun c1 => ?_) (fun c1 => ?_)
      · have et : t = T := by omega
        subst et
        rw [eG, eH]
        by_cases q0 : x = 0
        · subst q0
          refine ev_iload_n dX6_count_81 rfl ?_
          refine ev_tabIn 112 dX6_count_82 (by omega) (by omega) (by omega) rfl ?_
          refine ev_aload_n dX6_count_112 rfl ?_
          refine em_getI fX6_40.g dX6_count_113 lay_53 rfl ?_
          exact em_iret dX6_count_116 ⟨h, by unfold fCount; rw [if_pos rfl]; rw [h53]⟩
        by_cases q1 : x = 1
        · subst q1
          refine ev_iload_n dX6_count_81 rfl ?_
          refine ev_tabIn 117 dX6_count_82 (by omega) (by omega) (by omega) rfl ?_
          refine ev_iload_n dX6_count_117 rfl ?_
          exact em_iret dX6_count_118 ⟨h, by unfold fCount; rw [if_neg (by omega), if_pos rfl]⟩
        by_cases q2 : x = 2
        · subst q2
          refine ev_iload_n dX6_count_81 rfl ?_
          refine ev_tabIn 119 dX6_count_82 (by omega) (by omega) (by omega) rfl ?_
          refine ev_aload_n dX6_count_119 rfl ?_
          refine em_getI fX6_159.g dX6_count_120 lay_53 rfl ?_
          exact em_iret dX6_count_123 ⟨h, by unfold fCount; rw [if_neg (by omega), if_neg (by omega), if_pos rfl]; rw [h.n53]⟩
        by_cases q3 : x = 3
        · subst q3
          refine ev_iload_n dX6_count_81 rfl ?_
          refine ev_tabIn 124 dX6_count_82 (by omega) (by omega) (by omega) rfl ?_
          refine ev_iload_n dX6_count_124 rfl ?_
          exact em_iret dX6_count_125 ⟨h, by unfold fCount; rw [if_neg (by omega), if_neg (by omega), if_neg (by omega), if_pos rfl]⟩
        refine ev_iload_n dX6_count_81 rfl ?_
        refine ev_tabOut 126 dX6_count_82 (by omega) (by omega) ?_
        refine ev_iconst dX6_count_126 ?_
        exact em_iret dX6_count_127 ⟨h, by unfold fCount; rw [if_neg (by omega), if_neg (by omega), if_neg (by omega), if_neg (by omega)]⟩
      · have ht : t < T := by omega
        have q1 := hho t ht
        have q2 := hdl t ht
        refine ev_iload_n dX6_count_57 rfl ?_
        refine ev_aload_n dX6_count_58 rfl ?_
        refine em_getR fX6_16.g dX6_count_59 lay_53 rfl ?_
        refine ev_iload dX6_count_62 rfl ?_
        refine en_zald t dX6_count_64 lay_56 (by omega) (by omega) ?_
        rw [e56]
        refine ev_if_eq 72 dX6_count_65 (by omega) (fun c65 => ?_) (fun c65 => ?_)
        · refine ev_iconst dX6_count_72 ?_
          refine ev_iadd dX6_count_73 ?_
          refine ev_istore_n dX6_count_74 (by decide) ?_
          refine ev_ls [some (vR _), some (vI _), some (vI _), some (vI _), some (vI _)] rfl ?_
          refine ev_iinc dX6_count_75 rfl (by decide) ?_
          refine ev_ls [some (vR _), some (vI _), some (vI _), some (vI _), some (vI _)] rfl ?_
          refine ev_goto 48 dX6_count_78 ?_
          have hst := ihsecond (t + 1) (by omega) (by omega)
          rw [show sm (t + 1) (fun t => if M0 56 t = 0 then (0 : Int) else 1) = sm t (fun t => if M0 56 t = 0 then (0 : Int) else 1) + (if M0 56 t = 0 then (0 : Int) else 1) from rfl] at hst
          first | (rw [if_neg (by omega)] at hst; exact hst) | (rw [if_pos (by omega)] at hst; exact hst)
        · refine ev_iconst dX6_count_68 ?_
          refine ev_goto 73 dX6_count_69 ?_
          refine ev_iadd dX6_count_73 ?_
          refine ev_istore_n dX6_count_74 (by decide) ?_
          refine ev_ls [some (vR _), some (vI _), some (vI _), some (vI _), some (vI _)] rfl ?_
          refine ev_iinc dX6_count_75 rfl (by decide) ?_
          refine ev_ls [some (vR _), some (vI _), some (vI _), some (vI _), some (vI _)] rfl ?_
          refine ev_goto 48 dX6_count_78 ?_
          have hst := ihsecond (t + 1) (by omega) (by omega)
          rw [show sm (t + 1) (fun t => if M0 56 t = 0 then (0 : Int) else 1) = sm t (fun t => if M0 56 t = 0 then (0 : Int) else 1) + (if M0 56 t = 0 then (0 : Int) else 1) from rfl] at hst
          first | (rw [if_neg (by omega)] at hst; exact hst) | (rw [if_pos (by omega)] at hst; exact hst)
  have first : ∀ (n : Nat) (k : Nat), 9 * T < k + n → k ≤ 9 * T → Em l yX6_count cX6_count 5 (some .int) 0 0 (fun r M' => IV M0 T N c M' ∧ r = some (vI (fCount M0 T N x))) 7 [some (vR 53), some (vI x), some (vI (sm k (fun k => if M0 55 k = 200000 then (0 : Int) else 1))), some (vI 0), some (vI (k : Int))] [] M := by
    intro n
    induction n with
    | zero => intro k h1 h2; omega
    | succ n ihfirst =>
      intro k h1 h2
      refine ev_iload dX6_count_7 rfl ?_
      refine ev_bipush dX6_count_9 (by decide) ?_
      refine ev_aload_n dX6_count_11 rfl ?_
      refine em_getI fX6_40.g dX6_count_12 lay_53 rfl ?_
      refine ev_imul dX6_count_15 ?_
      refine ev_icmp_ge 45 dX6_count_16 (by omega) (by omega) (fun c1 => ?_) (fun c1 => ?_)
      · have et : k = 9 * T := by omega
        subst et
        refine ev_iconst dX6_count_45 ?_
        refine ev_istore dX6_count_46 (by decide) ?_
        refine ev_ls [some (vR _), some (vI _), some (vI _), some (vI _), some (vI _)] rfl ?_
        exact second (T + 1) 0 (by omega) (by omega)
      · have hk : k < 9 * T := by omega
        have q2 := hcl (k / 9) (by omega) (k % 9) (by omega)
        have q1 := hhg (k / 9) (by omega) (k % 9) (by omega)
        rw [show 9 * (k / 9) + k % 9 = k by omega] at q2
        refine ev_iload_n dX6_count_19 rfl ?_
        refine ev_aload_n dX6_count_20 rfl ?_
        refine em_getR fX6_13.g dX6_count_21 lay_53 rfl ?_
        refine ev_iload dX6_count_24 rfl ?_
        refine en_iald k dX6_count_26 lay_55 (by omega) (by omega) ?_
        rw [e55]
        refine ev_ldc (200000) kX6_39 dX6_count_27 (by decide) ?_
        refine ev_icmp_eq 36 dX6_count_29 (by omega) (by omega) (fun c29 => ?_) (fun c29 => ?_)
        · refine ev_iconst dX6_count_36 ?_
          refine ev_iadd dX6_count_37 ?_
          refine ev_istore_n dX6_count_38 (by decide) ?_
          refine ev_ls [some (vR _), some (vI _), some (vI _), some (vI _), some (vI _)] rfl ?_
          refine ev_iinc dX6_count_39 rfl (by decide) ?_
          refine ev_ls [some (vR _), some (vI _), some (vI _), some (vI _), some (vI _)] rfl ?_
          refine ev_goto 7 dX6_count_42 ?_
          have hst := ihfirst (k + 1) (by omega) (by omega)
          rw [show sm (k + 1) (fun k => if M0 55 k = 200000 then (0 : Int) else 1) = sm k (fun k => if M0 55 k = 200000 then (0 : Int) else 1) + (if M0 55 k = 200000 then (0 : Int) else 1) from rfl] at hst
          first | (rw [if_neg (by omega)] at hst; exact hst) | (rw [if_pos (by omega)] at hst; exact hst)
        · refine ev_iconst dX6_count_32 ?_
          refine ev_goto 37 dX6_count_33 ?_
          refine ev_iadd dX6_count_37 ?_
          refine ev_istore_n dX6_count_38 (by decide) ?_
          refine ev_ls [some (vR _), some (vI _), some (vI _), some (vI _), some (vI _)] rfl ?_
          refine ev_iinc dX6_count_39 rfl (by decide) ?_
          refine ev_ls [some (vR _), some (vI _), some (vI _), some (vI _), some (vI _)] rfl ?_
          refine ev_goto 7 dX6_count_42 ?_
          have hst := ihfirst (k + 1) (by omega) (by omega)
          rw [show sm (k + 1) (fun k => if M0 55 k = 200000 then (0 : Int) else 1) = sm k (fun k => if M0 55 k = 200000 then (0 : Int) else 1) + (if M0 55 k = 200000 then (0 : Int) else 1) from rfl] at hst
          first | (rw [if_neg (by omega)] at hst; exact hst) | (rw [if_pos (by omega)] at hst; exact hst)
  refine ev_iconst dX6_count_0 ?_
  refine ev_istore_n dX6_count_1 (by decide) ?_
  refine ev_ls [some (vR _), some (vI _), some (vI _), none, none] rfl ?_
  refine ev_iconst dX6_count_2 ?_
  refine ev_istore_n dX6_count_3 (by decide) ?_
  refine ev_ls [some (vR _), some (vI _), some (vI _), some (vI _), none] rfl ?_
  refine ev_iconst dX6_count_4 ?_
  refine ev_istore dX6_count_5 (by decide) ?_
  refine ev_ls [some (vR _), some (vI _), some (vI _), some (vI _), some (vI _)] rfl ?_
  exact first (9 * T + 1) 0 (by omega) (by omega)
