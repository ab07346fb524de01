theorem all0 {P : Nat → Prop} : ∀ k, k < 0 → P k := fun k hk => absurd hk (Nat.not_lt_zero k)
theorem allS {P : Nat → Prop} {n : Nat} (h : ∀ k, k < n → P k) (hn : P n) : ∀ k, k < n + 1 → P k := fun k hk => by
  rcases (show k < n ∨ k = n by omega) with q | q
  · exact h k q
  · rw [q]; exact hn
theorem ev_cast {l : Launch} {y : MethodName} {cc : ByteArray} {nL : Nat} {rt : Option FieldType} {R : Room} {E : EE} {Z : ZZ} {n0 pc : Nat} {ls : List (Option PV)} {st : List PV} {n ce sl n' ce' sl' : Nat} {h : HP} (e1 : n = n') (e2 : ce = ce') (e3 : sl = sl') (kk : Ev l y cc nL rt R E Z n0 pc ls st n' ce' sl' h) : Ev l y cc nL rt R E Z n0 pc ls st n ce sl h := by
  subst e1; subst e2; subst e3; exact kk
def HF (h : HP) (i : Nat) : HP := fun k => if k < 19 then h k else if k = 19 then kO 0 [vR 20, vI 0, vI 0, vI 0, vL 0, vQ none, vQ none, vQ none, vQ none, vQ none, vL 0, vL 0] else if k = 20 then kQ 1 8 (fun j => if j < i then some (21 + j) else none) else kO 2 [vL 0, vL 1]
theorem up_lt (i b : Nat) (f : Nat → Nat) (hb : f i = b) : va_up (fun j => if j < i then some (f j) else none) i (some b) = fun j => if j < i + 1 then some (f j) else none := by
  funext j
  unfold va_up
  by_cases h : j = i
  · subst h; rw [if_pos rfl, if_pos (by omega), hb]
  · rw [if_neg h]
    show (if j < i then some (f j) else none) = _
    by_cases h2 : j < i
    · rw [if_pos h2, if_pos (by omega)]
    · rw [if_neg h2, if_neg (by omega)]
theorem ev_heqo {l : Launch} {y : MethodName} {cc : ByteArray} {nL : Nat} {rt : Option FieldType} {R : Room} {E : EE} {Z : ZZ} {n0 pc : Nat} {ls : List (Option PV)} {st : List PV} {n ce sl : Nat} {h : HP} (h' : HP) (hO : okh n h) (he : ∀ k, k < n → h k = h' k) (kk : okh n h' → Ev l y cc nL rt R E Z n0 pc ls st n ce sl h') : Ev l y cc nL rt R E Z n0 pc ls st n ce sl h := ev_heq h' he (kk (okh_eq hO he))
theorem okHF {h : HP} (hh : okh 20 h) (i : Nat) : okh (21 + i) (HF h i) := by
  intro k hk
  unfold HF
  split
  · exact (hh k (by omega)).up (by omega)
  · split
    · exact okO ⟨okv_R (by omega), okv_I _, okv_I _, okv_I _, okv_L _, okv_N, okv_N, okv_N, okv_N, okv_N, okv_L _, okv_L _, trivial⟩
    · split
      · intro j r e
        simp only at e
        split at e
        · cases e; omega
        · cases e
      · exact okO ⟨okv_L _, okv_L _, trivial⟩
def HCl (h : HP) : HP := fun k => if k < 19 then h k else if k = 19 then kO 0 [vR 20, vI 0, vI 0, vI 0, vL 0, vR 29, vR 38, vR 39, vR 40, vR 49, vL 0, vL 1] else if k = 20 then kQ 1 8 (fun j => if j < 8 then some (21 + j) else none) else if k < 29 then kO 2 [vL 0, vL 1] else if k = 29 then kQ 2 8 (fun j => if j < 8 then some (30 + j) else none) else if k < 40 then kI 8 (fun _ => 0) else if k = 40 then kQ 3 8 (fun j => if j < 8 then some (41 + j) else none) else kJ 8 (fun _ => 0)
theorem okh_8 {n k : Nat} {h : HP} {c : PK} (hh : okh n h) (hc : okc (n + 9) c) : okh (n + 9) (h8 h n k c) := by
  intro j hj
  unfold h8
  split
  · exact (hh j (by omega)).up (by omega)
  · split
    · intro i r e
      simp only at e
      split at e
      · cases e; omega
      · cases e
    · exact hc
theorem i_X0 (l : Launch) {h : HP} (hh : okh 20 h) (hhb : h 19 = kO 0 dF0) : Con l yX0_init cX0_init 2 none 2 40 30 192 [vR 19] 20 h (fun r n' h' => r = none ∧ n' = 50 ∧ h' = HCl h ∧ okh n' h') := by
  refine con_of [some (vR 19), none] (by decide +kernel) (by decide) rfl ?_
  have tail : Ev l yX0_init cX0_init 2 none { frames := 2, cells := 30, slots := 192, locals := 40 } eT (zM (fun r n' h' => r = none ∧ n' = 50 ∧ h' = HCl h ∧ okh n' h') 20 30 192) 20 40 [some (vR 19), some (vI 8)] [] 29 9 24 (HF h 8) := by
    refine ev_aload_n dX0_init_40 rfl ?_
    refine ev_bipush dX0_init_41 (by decide) ?_
    refine ev_bipush dX0_init_43 (by decide) ?_
    refine ev_mnaI lX0_18 arI dX0_init_45 (by decide) (okHF hh 8) ⟨okv_R (by decide), trivial⟩ ⟨okv_R (by decide), okv_I _, trivial⟩ ?_
    refine ev_putF fX0_20 rfl dX0_init_49 (fs := [vR 20, vI 0, vI 0, vI 0, vL 0, vQ none, vQ none, vQ none, vQ none, vQ none, vL 0, vL 0]) (show 19 < 38 by decide) rfl (okT_A _ _) (by decide) ?_
    refine ev_aload_n dX0_init_52 rfl ?_
    refine ev_bipush dX0_init_53 (by decide) ?_
    refine ev_newI 8 rfl (by decide) arI dX0_init_55 (by decide) (okh_set (okh_8 (okHF hh 8) trivial) (okO (fs := [vR 20, vI 0, vI 0, vI 0, vL 0, vR 29, vQ none, vQ none, vQ none, vQ none, vL 0, vL 0]) ⟨okv_R (by decide), okv_I _, okv_I _, okv_I _, okv_L _, okv_R (by decide), okv_N, okv_N, okv_N, okv_N, okv_L _, okv_L _, trivial⟩)) ⟨okv_R (by decide), trivial⟩ ⟨okv_R (by decide), okv_I _, trivial⟩ ?_
    refine ev_putF fX0_23 rfl dX0_init_57 (fs := [vR 20, vI 0, vI 0, vI 0, vL 0, vR 29, vQ none, vQ none, vQ none, vQ none, vL 0, vL 0]) (show 19 < 39 by decide) rfl (okT_A _ _) (by decide) ?_
    refine ev_aload_n dX0_init_60 rfl ?_
    refine ev_bipush dX0_init_61 (by decide) ?_
    refine ev_newI 8 rfl (by decide) arI dX0_init_63 (by decide) (okh_set (okh_push (okh_set (okh_8 (okHF hh 8) trivial) (okO (fs := [vR 20, vI 0, vI 0, vI 0, vL 0, vR 29, vQ none, vQ none, vQ none, vQ none, vL 0, vL 0]) ⟨okv_R (by decide), okv_I _, okv_I _, okv_I _, okv_L _, okv_R (by decide), okv_N, okv_N, okv_N, okv_N, okv_L _, okv_L _, trivial⟩)) trivial) (okO (fs := [vR 20, vI 0, vI 0, vI 0, vL 0, vR 29, vR 38, vQ none, vQ none, vQ none, vL 0, vL 0]) ⟨okv_R (by decide), okv_I _, okv_I _, okv_I _, okv_L _, okv_R (by decide), okv_R (by decide), okv_N, okv_N, okv_N, okv_L _, okv_L _, trivial⟩)) ⟨okv_R (by decide), trivial⟩ ⟨okv_R (by decide), okv_I _, trivial⟩ ?_
    refine ev_putF fX0_27 rfl dX0_init_65 (fs := [vR 20, vI 0, vI 0, vI 0, vL 0, vR 29, vR 38, vQ none, vQ none, vQ none, vL 0, vL 0]) (show 19 < 40 by decide) rfl (okT_A _ _) (by decide) ?_
    refine ev_aload_n dX0_init_68 rfl ?_
    refine ev_bipush dX0_init_69 (by decide) ?_
    refine ev_bipush dX0_init_71 (by decide) ?_
    refine ev_mnaJ lX0_30 arJ dX0_init_73 (by decide) (okh_set (okh_push (okh_set (okh_push (okh_set (okh_8 (okHF hh 8) trivial) (okO (fs := [vR 20, vI 0, vI 0, vI 0, vL 0, vR 29, vQ none, vQ none, vQ none, vQ none, vL 0, vL 0]) ⟨okv_R (by decide), okv_I _, okv_I _, okv_I _, okv_L _, okv_R (by decide), okv_N, okv_N, okv_N, okv_N, okv_L _, okv_L _, trivial⟩)) trivial) (okO (fs := [vR 20, vI 0, vI 0, vI 0, vL 0, vR 29, vR 38, vQ none, vQ none, vQ none, vL 0, vL 0]) ⟨okv_R (by decide), okv_I _, okv_I _, okv_I _, okv_L _, okv_R (by decide), okv_R (by decide), okv_N, okv_N, okv_N, okv_L _, okv_L _, trivial⟩)) trivial) (okO (fs := [vR 20, vI 0, vI 0, vI 0, vL 0, vR 29, vR 38, vR 39, vQ none, vQ none, vL 0, vL 0]) ⟨okv_R (by decide), okv_I _, okv_I _, okv_I _, okv_L _, okv_R (by decide), okv_R (by decide), okv_R (by decide), okv_N, okv_N, okv_L _, okv_L _, trivial⟩)) ⟨okv_R (by decide), trivial⟩ ⟨okv_R (by decide), okv_I _, trivial⟩ ?_
    refine ev_putF fX0_32 rfl dX0_init_77 (fs := [vR 20, vI 0, vI 0, vI 0, vL 0, vR 29, vR 38, vR 39, vQ none, vQ none, vL 0, vL 0]) (show 19 < 49 by decide) rfl (okT_A _ _) (by decide) ?_
    refine ev_aload_n dX0_init_80 rfl ?_
    refine ev_bipush dX0_init_81 (by decide) ?_
    refine ev_newJ 8 rfl (by decide) arJ dX0_init_83 (by decide) (okh_set (okh_8 (okh_set (okh_push (okh_set (okh_push (okh_set (okh_8 (okHF hh 8) trivial) (okO (fs := [vR 20, vI 0, vI 0, vI 0, vL 0, vR 29, vQ none, vQ none, vQ none, vQ none, vL 0, vL 0]) ⟨okv_R (by decide), okv_I _, okv_I _, okv_I _, okv_L _, okv_R (by decide), okv_N, okv_N, okv_N, okv_N, okv_L _, okv_L _, trivial⟩)) trivial) (okO (fs := [vR 20, vI 0, vI 0, vI 0, vL 0, vR 29, vR 38, vQ none, vQ none, vQ none, vL 0, vL 0]) ⟨okv_R (by decide), okv_I _, okv_I _, okv_I _, okv_L _, okv_R (by decide), okv_R (by decide), okv_N, okv_N, okv_N, okv_L _, okv_L _, trivial⟩)) trivial) (okO (fs := [vR 20, vI 0, vI 0, vI 0, vL 0, vR 29, vR 38, vR 39, vQ none, vQ none, vL 0, vL 0]) ⟨okv_R (by decide), okv_I _, okv_I _, okv_I _, okv_L _, okv_R (by decide), okv_R (by decide), okv_R (by decide), okv_N, okv_N, okv_L _, okv_L _, trivial⟩)) trivial) (okO (fs := [vR 20, vI 0, vI 0, vI 0, vL 0, vR 29, vR 38, vR 39, vR 40, vQ none, vL 0, vL 0]) ⟨okv_R (by decide), okv_I _, okv_I _, okv_I _, okv_L _, okv_R (by decide), okv_R (by decide), okv_R (by decide), okv_R (by decide), okv_N, okv_L _, okv_L _, trivial⟩)) ⟨okv_R (by decide), trivial⟩ ⟨okv_R (by decide), okv_I _, trivial⟩ ?_
    refine ev_putF fX0_35 rfl dX0_init_85 (fs := [vR 20, vI 0, vI 0, vI 0, vL 0, vR 29, vR 38, vR 39, vR 40, vQ none, vL 0, vL 0]) (show 19 < 50 by decide) rfl (okT_A _ _) (by decide) ?_
    refine ev_aload_n dX0_init_88 rfl ?_
    refine ev_lconst0 dX0_init_89 ?_
    refine ev_put fX0_39 dX0_init_90 (fs := [vR 20, vI 0, vI 0, vI 0, vL 0, vR 29, vR 38, vR 39, vR 40, vR 49, vL 0, vL 0]) (show 19 < 50 by decide) rfl (okT_L _) (by decide) ?_
    refine ev_aload_n dX0_init_93 rfl ?_
    refine ev_lconst1 dX0_init_94 ?_
    refine ev_put fX0_43 dX0_init_95 (fs := [vR 20, vI 0, vI 0, vI 0, vL 0, vR 29, vR 38, vR 39, vR 40, vR 49, vL 0, vL 0]) (show 19 < 50 by decide) rfl (okT_L _) (by decide) ?_
    refine ev_heqo (HCl h) (okh_set (okh_set (okh_set (okh_push (okh_set (okh_8 (okh_set (okh_push (okh_set (okh_push (okh_set (okh_8 (okHF hh 8) trivial) (okO (fs := [vR 20, vI 0, vI 0, vI 0, vL 0, vR 29, vQ none, vQ none, vQ none, vQ none, vL 0, vL 0]) ⟨okv_R (by decide), okv_I _, okv_I _, okv_I _, okv_L _, okv_R (by decide), okv_N, okv_N, okv_N, okv_N, okv_L _, okv_L _, trivial⟩)) trivial) (okO (fs := [vR 20, vI 0, vI 0, vI 0, vL 0, vR 29, vR 38, vQ none, vQ none, vQ none, vL 0, vL 0]) ⟨okv_R (by decide), okv_I _, okv_I _, okv_I _, okv_L _, okv_R (by decide), okv_R (by decide), okv_N, okv_N, okv_N, okv_L _, okv_L _, trivial⟩)) trivial) (okO (fs := [vR 20, vI 0, vI 0, vI 0, vL 0, vR 29, vR 38, vR 39, vQ none, vQ none, vL 0, vL 0]) ⟨okv_R (by decide), okv_I _, okv_I _, okv_I _, okv_L _, okv_R (by decide), okv_R (by decide), okv_R (by decide), okv_N, okv_N, okv_L _, okv_L _, trivial⟩)) trivial) (okO (fs := [vR 20, vI 0, vI 0, vI 0, vL 0, vR 29, vR 38, vR 39, vR 40, vQ none, vL 0, vL 0]) ⟨okv_R (by decide), okv_I _, okv_I _, okv_I _, okv_L _, okv_R (by decide), okv_R (by decide), okv_R (by decide), okv_R (by decide), okv_N, okv_L _, okv_L _, trivial⟩)) trivial) (okO (fs := [vR 20, vI 0, vI 0, vI 0, vL 0, vR 29, vR 38, vR 39, vR 40, vR 49, vL 0, vL 0]) ⟨okv_R (by decide), okv_I _, okv_I _, okv_I _, okv_L _, okv_R (by decide), okv_R (by decide), okv_R (by decide), okv_R (by decide), okv_R (by decide), okv_L _, okv_L _, trivial⟩)) (okO (fs := [vR 20, vI 0, vI 0, vI 0, vL 0, vR 29, vR 38, vR 39, vR 40, vR 49, vL 0, vL 0]) ⟨okv_R (by decide), okv_I _, okv_I _, okv_I _, okv_L _, okv_R (by decide), okv_R (by decide), okv_R (by decide), okv_R (by decide), okv_R (by decide), okv_L _, okv_L _, trivial⟩)) (okO (fs := [vR 20, vI 0, vI 0, vI 0, vL 0, vR 29, vR 38, vR 39, vR 40, vR 49, vL 0, vL 1]) ⟨okv_R (by decide), okv_I _, okv_I _, okv_I _, okv_L _, okv_R (by decide), okv_R (by decide), okv_R (by decide), okv_R (by decide), okv_R (by decide), okv_L _, okv_L _, trivial⟩)) (allS (allS (allS (allS (allS (allS (allS (allS (allS (allS (allS (allS (allS (allS (allS (allS (allS (allS (allS (allS (allS (allS (allS (allS (allS (allS (allS (allS (allS (allS (allS (allS (allS (allS (allS (allS (allS (allS (allS (allS (allS (allS (allS (allS (allS (allS (allS (allS (allS (allS all0 rfl) rfl) rfl) rfl) rfl) rfl) rfl) rfl) rfl) rfl) rfl) rfl) rfl) rfl) rfl) rfl) rfl) rfl) rfl) rfl) rfl) rfl) rfl) rfl) rfl) rfl) rfl) rfl) rfl) rfl) rfl) rfl) rfl) rfl) rfl) rfl) rfl) rfl) rfl) rfl) rfl) rfl) rfl) rfl) rfl) rfl) rfl) rfl) rfl) rfl) (fun hO => ?_)
    exact ev_vret rfl dX0_init_98 ⟨rfl, rfl, rfl, hO⟩ (by decide) (by decide)
  have loop : ∀ m i : Nat, i + m = 8 → Ev l yX0_init cX0_init 2 none { frames := 2, cells := 30, slots := 192, locals := 40 } eT (zM (fun r n' h' => r = none ∧ n' = 50 ∧ h' = HCl h ∧ okh n' h') 20 30 192) 20 15 [some (vR 19), some (vI (i : Int))] [] (21 + i) (1 + i) (8 + 2 * i) (HF h i) := by
    intro m
    induction m with
    | zero =>
      intro i hi
      have e8 : i = 8 := by omega
      subst e8
      refine ev_iload_n dX0_init_15 rfl ?_
      refine ev_bipush dX0_init_16 (by decide) ?_
      refine ev_icmp_ge 40 dX0_init_18 (by omega) (by omega) (fun _ => ?_) (fun q => by omega)
      exact tail
    | succ m ih =>
      intro i hi
      refine ev_iload_n dX0_init_15 rfl ?_
      refine ev_bipush dX0_init_16 (by decide) ?_
      refine ev_icmp_ge 40 dX0_init_18 (by omega) (by omega) (fun q => by omega) (fun _ => ?_)
      refine ev_aload_n dX0_init_21 rfl ?_
      refine ev_get fX0_11.g dX0_init_22 (fs := [vR 20, vI 0, vI 0, vI 0, vL 0, vQ none, vQ none, vQ none, vQ none, vQ none, vL 0, vL 0]) (show 19 < 21 + i by omega) rfl rfl ?_
      refine ev_iload_n dX0_init_25 rfl ?_
      refine ev_new nX0_9 dX0_init_26 ⟨show 1 + i + 1 ≤ 30 by omega, show 8 + 2 * i + 2 ≤ 192 by omega⟩ (okHF hh i) ⟨okv_I _, okv_R (by omega), trivial⟩ ⟨okv_R (by omega), okv_I _, trivial⟩ ?_
      refine ev_dup_R dX0_init_29 ?_
      refine ev_callI (i_X2 l (b := 21 + i) (n := 21 + i + 1) (by omega) (okh_push (okHF hh i) (okO ⟨okv_L _, okv_L _, trivial⟩)) (by rw [va_up_self])) mX0_17 dX0_init_30 rfl rfl (by simp [pcat]) (by decide) ⟨show 1 + i + 1 + 0 ≤ 30 by omega, show 8 + 2 * i + 2 + 0 ≤ 192 by omega⟩ ⟨okv_R (by omega), okv_I _, okv_R (by omega), trivial⟩ ⟨okv_R (by omega), okv_I _, trivial⟩ (fun r n' h' q => q.1) ?_
      rintro n' h' - ⟨-, rfl, rfl, -⟩
      rw [up_up]
      refine ev_astq 1 (ci := 2) rfl (fun _ => rfl) dX0_init_33 (a := 20) (v := 21 + i) (f := fun j => if j < i then some (21 + j) else none) (vs := [vL 0, vL 1]) (show 20 < 21 + i + 1 by omega) (show 21 + i < 21 + i + 1 by omega) (by rw [va_up_ne _ _ (by omega)]; rfl) (by rw [va_up_self]) i rfl (by omega) (by decide) ?_
      rw [up_lt i (21 + i) (fun j => 21 + j) rfl]
      refine ev_iinc dX0_init_34 rfl (by decide) ?_
      refine ev_ls [some (vR _), some (vI _)] rfl ?_
      refine ev_goto 15 dX0_init_37 ?_
      refine ev_cast (n' := 21 + (i + 1)) (ce' := 1 + (i + 1)) (sl' := 8 + 2 * (i + 1)) (by omega) (by omega) (by omega) ?_
      refine ev_heq (HF h (i + 1)) (fun k hk => ?_) (ih (i + 1) (by omega))
      by_cases q0 : k = 20
      · subst q0; rw [va_up_self]; rfl
      · rw [va_up_ne _ _ q0]
        by_cases q1 : k = 21 + i
        · rw [q1, va_up_self]; unfold HF; rw [if_neg (by omega), if_neg (by omega), if_neg (by omega)]
        · rw [va_up_ne _ _ q1]; unfold HF; rw [if_neg q0, if_neg q0]
  refine ev_aload_n dX0_init_0 rfl ?_
  refine ev_objInit oX0 oIn oCo dX0_init_1 (by decide) (by decide) ?_
  refine ev_aload_n dX0_init_4 rfl ?_
  refine ev_bipush dX0_init_5 (by decide) ?_
  refine ev_newQ1 8 rfl (by decide) lX0_9 dX0_init_7 (by decide) hh ⟨okv_R (by decide), trivial⟩ ⟨okv_R (by decide), trivial⟩ ?_
  refine ev_putF fX0_11 rfl dX0_init_10 (fs := dF0) (show 19 < 21 by decide) (by rw [va_up_ne _ _ (by decide)]; exact hhb) (okT_A _ _) (by decide) ?_
  refine ev_iconst dX0_init_13 ?_
  refine ev_istore_n dX0_init_14 (by decide) ?_
  refine ev_ls [some (vR _), some (vI _)] rfl ?_
  refine ev_heq (HF h 0) (fun k hk => ?_) (loop 8 0 rfl)
  by_cases q0 : k = 19
  · subst q0; rfl
  · rw [va_up_ne _ _ q0]
    by_cases q1 : k = 20
    · subst q1; rfl
    · rw [va_up_ne _ _ q1]; unfold HF; rw [if_pos (by omega)]
