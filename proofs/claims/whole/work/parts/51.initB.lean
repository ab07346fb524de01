/-- the memory as the constructors leave it -/
def MZ : Mem := fun k => if k = 0 then (fun j => if j = 6 then 1 else 0) else if k < 18 then (if k % 2 = 0 then fun _ => 0 else g9 9) else if k = 18 then (fun j => if j = 1 then 1 else 0) else if k = 19 then (fun j => if j = 11 then 1 else 0) else if k < 29 then (fun j => if j = 1 then 1 else 0) else if k = 52 then (fun j => if j = 1 then 1 else 0) else if k = 55 then g9 72 else fun _ => 0
def HT (i : Nat) : HP := fun k => if k = 0 then kO 5 [vR 1, vQ none, vQ none, vQ none, vQ none, vI 0, vI 0] else if k = 1 then kQ 0 8 (fun j => if j < i then some (2 + 2 * j) else none) else if k % 2 = 0 then kO 4 [vI 0, vI 0, vI 0, vI 0, vI 0, vI 0, vI 0, vR (k + 1)] else kI 9 (g9 9)
theorem okHT (i : Nat) : okh (2 + 2 * i) (HT i) := by
  intro k hk
  unfold HT
  split
  · exact okO ⟨okv_R (by omega), okv_N, okv_N, okv_N, okv_N, okv_I _, okv_I _, trivial⟩
  · split
    · intro j r e
      simp only at e
      split at e
      · cases e; omega
      · cases e
    · split
      · exact okO ⟨okv_I _, okv_I _, okv_I _, okv_I _, okv_I _, okv_I _, okv_I _, okv_R (by omega), trivial⟩
      · trivial
def HM (h : HP) (f : Nat → Int) : HP := fun k => if k < 53 then h k else if k = 53 then kO 6 [vI 0, vR 54, vR 55, vR 56, vI 0, vR 57, vL 0, vL 0, vL 0, vL 0, vL 0, vR 58, vR 59, vR 60, vR 61, vR 62, vL 0, vL 0] else if k = 54 then kI 48 (fun _ => 0) else if k = 55 then kI 72 f else if k = 56 then kZ 8 (fun _ => 0) else if k = 57 then kI 6 (fun _ => 0) else if k < 60 then kI 8 (fun _ => 0) else if k = 60 then kJ 64 (fun _ => 0) else kJ 8 (fun _ => 0)
theorem i_X5 (l : Launch) {h : HP} (hhb : h 0 = kO 5 dF5) : Con l yX5_init cX5_init 2 none 3 61 52 362 [vR 0] 1 h (fun r n' h' => r = none ∧ n' = 53 ∧ h' = hp MZ ∧ okh n' h') := by
  refine con_of [some (vR 0), none] (by decide +kernel) (by decide) rfl ?_
  have tail : Ev l yX5_init cX5_init 2 none { frames := 3, cells := 52, slots := 362, locals := 61 } eT (zM (fun r n' h' => r = none ∧ n' = 53 ∧ h' = hp MZ ∧ okh n' h') 1 52 362) 1 40 [some (vR 0), some (vI 8)] [] 18 17 144 (HT 8) := by
    refine ev_aload_n dX5_init_40 rfl ?_
    refine ev_new nX5_16 dX5_init_41 (by decide) (okHT 8) ⟨okv_R (by decide), trivial⟩ ⟨okv_R (by decide), okv_I _, trivial⟩ ?_
    refine ev_dup_R dX5_init_44 ?_
    refine ev_callI (i_X1 l (b := 18) (n := 19) (by decide) (okh_push (okHT 8) (okO ⟨okv_I _, okv_L _, okv_L _, okv_L _, trivial⟩)) rfl) mX5_18 dX5_init_45 rfl rfl (by decide) (by decide) (by decide) ⟨okv_R (by decide), okv_R (by decide), trivial⟩ ⟨okv_R (by decide), okv_I _, trivial⟩ (fun r n' h' q => q.1) ?_
    rintro n' h' - ⟨-, rfl, rfl, ok1⟩
    refine ev_putF fX5_19 rfl dX5_init_48 (fs := [vR 1, vQ none, vQ none, vQ none, vQ none, vI 0, vI 0]) (show 0 < 19 by decide) rfl (okT_O _ _) (by decide) ?_
    refine ev_aload_n dX5_init_51 rfl ?_
    refine ev_new nX5_23 dX5_init_52 (by decide) (okh_set (ok1) (okO (fs := [vR 1, vR 18, vQ none, vQ none, vQ none, vI 0, vI 0]) ⟨okv_R (by decide), okv_R (by decide), okv_N, okv_N, okv_N, okv_I _, okv_I _, trivial⟩)) ⟨okv_R (by decide), trivial⟩ ⟨okv_R (by decide), okv_I _, trivial⟩ ?_
    refine ev_dup_R dX5_init_55 ?_
    refine ev_callI (i_X0 l (okh_push (okh_set (ok1) (okO (fs := [vR 1, vR 18, vQ none, vQ none, vQ none, vI 0, vI 0]) ⟨okv_R (by decide), okv_R (by decide), okv_N, okv_N, okv_N, okv_I _, okv_I _, trivial⟩)) (okO ⟨okv_N, okv_I _, okv_I _, okv_I _, okv_L _, okv_N, okv_N, okv_N, okv_N, okv_N, okv_L _, okv_L _, trivial⟩)) rfl) mX5_25 dX5_init_56 rfl rfl (by decide) (by decide) (by decide) ⟨okv_R (by decide), okv_R (by decide), trivial⟩ ⟨okv_R (by decide), okv_I _, trivial⟩ (fun r n' h' q => q.1) ?_
    rintro n' h' - ⟨-, rfl, rfl, ok2⟩
    refine ev_putF fX5_26 rfl dX5_init_59 (fs := [vR 1, vR 18, vQ none, vQ none, vQ none, vI 0, vI 0]) (show 0 < 50 by decide) rfl (okT_O _ _) (by decide) ?_
    refine ev_aload_n dX5_init_62 rfl ?_
    refine ev_new nX5_30 dX5_init_63 (by decide) (okh_set (ok2) (okO (fs := [vR 1, vR 18, vR 19, vQ none, vQ none, vI 0, vI 0]) ⟨okv_R (by decide), okv_R (by decide), okv_R (by decide), okv_N, okv_N, okv_I _, okv_I _, trivial⟩)) ⟨okv_R (by decide), trivial⟩ ⟨okv_R (by decide), okv_I _, trivial⟩ ?_
    refine ev_dup_R dX5_init_66 ?_
    refine ev_callI (i_X3 l (b := 50) (n := 51) (by decide) (okh_push (okh_set (ok2) (okO (fs := [vR 1, vR 18, vR 19, vQ none, vQ none, vI 0, vI 0]) ⟨okv_R (by decide), okv_R (by decide), okv_R (by decide), okv_N, okv_N, okv_I _, okv_I _, trivial⟩)) (okO ⟨okv_N, okv_I _, trivial⟩)) rfl) mX5_32 dX5_init_67 rfl rfl (by decide) (by decide) (by decide) ⟨okv_R (by decide), okv_R (by decide), trivial⟩ ⟨okv_R (by decide), okv_I _, trivial⟩ (fun r n' h' q => q.1) ?_
    rintro n' h' - ⟨-, rfl, rfl, ok3⟩
    refine ev_putF fX5_33 rfl dX5_init_70 (fs := [vR 1, vR 18, vR 19, vQ none, vQ none, vI 0, vI 0]) (show 0 < 52 by decide) rfl (okT_O _ _) (by decide) ?_
    refine ev_aload_n dX5_init_73 rfl ?_
    refine ev_new nX5_37 dX5_init_74 (by decide) (okh_set (ok3) (okO (fs := [vR 1, vR 18, vR 19, vR 50, vQ none, vI 0, vI 0]) ⟨okv_R (by decide), okv_R (by decide), okv_R (by decide), okv_R (by decide), okv_N, okv_I _, okv_I _, trivial⟩)) ⟨okv_R (by decide), trivial⟩ ⟨okv_R (by decide), okv_I _, trivial⟩ ?_
    refine ev_dup_R dX5_init_77 ?_
    refine ev_callI (i_X2 l (b := 52) (n := 53) (by decide) (okh_push (okh_set (ok3) (okO (fs := [vR 1, vR 18, vR 19, vR 50, vQ none, vI 0, vI 0]) ⟨okv_R (by decide), okv_R (by decide), okv_R (by decide), okv_R (by decide), okv_N, okv_I _, okv_I _, trivial⟩)) (okO ⟨okv_L _, okv_L _, trivial⟩)) rfl) mX5_39 dX5_init_78 rfl rfl (by decide) (by decide) (by decide) ⟨okv_R (by decide), okv_R (by decide), trivial⟩ ⟨okv_R (by decide), okv_I _, trivial⟩ (fun r n' h' q => q.1) ?_
    rintro n' h' - ⟨-, rfl, rfl, ok4⟩
    refine ev_putF fX5_40 rfl dX5_init_81 (fs := [vR 1, vR 18, vR 19, vR 50, vQ none, vI 0, vI 0]) (show 0 < 53 by decide) rfl (okT_O _ _) (by decide) ?_
    refine ev_aload_n dX5_init_84 rfl ?_
    refine ev_iconst dX5_init_85 ?_
    refine ev_put fX5_44 dX5_init_86 (fs := [vR 1, vR 18, vR 19, vR 50, vR 52, vI 0, vI 0]) (show 0 < 53 by decide) rfl (okT_I _) (by decide) ?_
    refine ev_aload_n dX5_init_89 rfl ?_
    refine ev_iconst dX5_init_90 ?_
    refine ev_put fX5_48 dX5_init_91 (fs := [vR 1, vR 18, vR 19, vR 50, vR 52, vI 0, vI 0]) (show 0 < 53 by decide) rfl (okT_Z (by decide)) (by decide) ?_
    refine ev_heqo (hp MZ) (okh_set (okh_set (okh_set (ok4) (okO (fs := [vR 1, vR 18, vR 19, vR 50, vR 52, vI 0, vI 0]) ⟨okv_R (by decide), okv_R (by decide), okv_R (by decide), okv_R (by decide), okv_R (by decide), okv_I _, okv_I _, trivial⟩)) (okO (fs := [vR 1, vR 18, vR 19, vR 50, vR 52, vI 0, vI 0]) ⟨okv_R (by decide), okv_R (by decide), okv_R (by decide), okv_R (by decide), okv_R (by decide), okv_I _, okv_I _, trivial⟩)) (okO (fs := [vR 1, vR 18, vR 19, vR 50, vR 52, vI 0, vI 1]) ⟨okv_R (by decide), okv_R (by decide), okv_R (by decide), okv_R (by decide), okv_R (by decide), okv_I _, okv_I _, trivial⟩)) (allS (allS (allS (allS (allS (allS (allS (allS (allS (allS (allS (allS (allS (allS (allS (allS (allS (allS (allS (allS (allS (allS (allS (allS (allS (allS (allS (allS (allS (allS (allS (allS (allS (allS (allS (allS (allS (allS (allS (allS (allS (allS (allS (allS (allS (allS (allS (allS (allS (allS (allS (allS (allS all0 rfl) rfl) rfl) rfl) rfl) rfl) rfl) rfl) rfl) rfl) rfl) rfl) rfl) rfl) rfl) rfl) rfl) rfl) rfl) rfl) rfl) rfl) rfl) rfl) rfl) rfl) rfl) rfl) rfl) rfl) rfl) rfl) rfl) rfl) rfl) rfl) rfl) rfl) rfl) rfl) rfl) rfl) rfl) rfl) rfl) rfl) rfl) rfl) rfl) rfl) rfl) rfl) rfl) (fun hO => ?_)
    exact ev_vret rfl dX5_init_94 ⟨rfl, rfl, rfl, hO⟩ (by decide) (by decide)
  have loop : ∀ m i : Nat, i + m = 8 → Ev l yX5_init cX5_init 2 none { frames := 3, cells := 52, slots := 362, locals := 61 } eT (zM (fun r n' h' => r = none ∧ n' = 53 ∧ h' = hp MZ ∧ okh n' h') 1 52 362) 1 15 [some (vR 0), some (vI (i : Int))] [] (2 + 2 * i) (1 + 2 * i) (8 + 17 * i) (HT i) := by
    intro m
    induction m with
    | zero =>
      intro i hi
      have e8 : i = 8 := by omega
      subst e8
      refine ev_iload_n dX5_init_15 rfl ?_
      refine ev_bipush dX5_init_16 (by decide) ?_
      refine ev_icmp_ge 40 dX5_init_18 (by omega) (by omega) (fun _ => ?_) (fun q => by omega)
      exact tail
    | succ m ih =>
      intro i hi
      refine ev_iload_n dX5_init_15 rfl ?_
      refine ev_bipush dX5_init_16 (by decide) ?_
      refine ev_icmp_ge 40 dX5_init_18 (by omega) (by omega) (fun q => by omega) (fun _ => ?_)
      refine ev_aload_n dX5_init_21 rfl ?_
      refine ev_get fX5_11.g dX5_init_22 (fs := [vR 1, vQ none, vQ none, vQ none, vQ none, vI 0, vI 0]) (show 0 < 2 + 2 * i by omega) rfl rfl ?_
      refine ev_iload_n dX5_init_25 rfl ?_
      refine ev_new nX5_9 dX5_init_26 ⟨show 1 + 2 * i + 1 ≤ 52 by omega, show 8 + 17 * i + 8 ≤ 362 by omega⟩ (okHT i) ⟨okv_I _, okv_R (by omega), trivial⟩ ⟨okv_R (by omega), okv_I _, trivial⟩ ?_
      refine ev_dup_R dX5_init_29 ?_
      refine ev_callI (i_X4 l (b := 2 + 2 * i) (n := 2 + 2 * i + 1) (by omega) (okh_push (okHT i) (okO ⟨okv_I _, okv_I _, okv_I _, okv_I _, okv_I _, okv_I _, okv_I _, okv_N, trivial⟩)) (by rw [va_up_self])) mX5_15 dX5_init_30 rfl rfl (by simp [pcat]) (by decide) ⟨show 1 + 2 * i + 1 + 1 ≤ 52 by omega, show 8 + 17 * i + 8 + 9 ≤ 362 by omega⟩ ⟨okv_R (by omega), okv_I _, okv_R (by omega), trivial⟩ ⟨okv_R (by omega), okv_I _, trivial⟩ (fun r n' h' q => q.1) ?_
      rintro n' h' - ⟨-, rfl, rfl, -⟩
      rw [up_up]
      refine ev_astq 0 (ci := 4) rfl (fun _ => rfl) dX5_init_33 (a := 1) (v := 2 + 2 * i) (f := fun j => if j < i then some (2 + 2 * j) else none) (vs := [vI 0, vI 0, vI 0, vI 0, vI 0, vI 0, vI 0, vR (2 + 2 * i + 1)]) (show 1 < 2 + 2 * i + 1 + 1 by omega) (show 2 + 2 * i < 2 + 2 * i + 1 + 1 by omega) (by rw [va_up_ne _ _ (by omega), va_up_ne _ _ (by omega)]; rfl) (by rw [va_up_ne _ _ (by omega), va_up_self]) i rfl (by omega) (by decide) ?_
      rw [up_lt i (2 + 2 * i) (fun j => 2 + 2 * j) rfl]
      refine ev_iinc dX5_init_34 rfl (by decide) ?_
      refine ev_ls [some (vR _), some (vI _)] rfl ?_
      refine ev_goto 15 dX5_init_37 ?_
      refine ev_cast (n' := 2 + 2 * (i + 1)) (ce' := 1 + 2 * (i + 1)) (sl' := 8 + 17 * (i + 1)) (by omega) (by omega) (by omega) ?_
      refine ev_heq (HT (i + 1)) (fun k hk => ?_) (ih (i + 1) (by omega))
      by_cases q0 : k = 1
      · subst q0; rw [va_up_self]; rfl
      · rw [va_up_ne _ _ q0]
        by_cases q1 : k = 2 + 2 * i + 1
        · rw [q1, va_up_self]; unfold HT; rw [if_neg (by omega), if_neg (by omega), if_neg (by omega)]
        · rw [va_up_ne _ _ q1]
          by_cases q2 : k = 2 + 2 * i
          · rw [q2, va_up_self]; unfold HT; rw [if_neg (by omega), if_neg (by omega), if_pos (by omega)]
          · rw [va_up_ne _ _ q2]; unfold HT; rw [if_neg q0, if_neg q0]
  refine ev_aload_n dX5_init_0 rfl ?_
  refine ev_objInit oX5 oIn oCo dX5_init_1 (by decide) (by decide) ?_
  refine ev_aload_n dX5_init_4 rfl ?_
  refine ev_bipush dX5_init_5 (by decide) ?_
  have hh : okh 1 h := fun k hk => by
    have e0 : k = 0 := by omega
    subst e0
    rw [hhb]
    exact okO ⟨okv_N, okv_N, okv_N, okv_N, okv_N, okv_I _, okv_I _, trivial⟩
  refine ev_newQ0 8 rfl (by decide) lX5_9 dX5_init_7 (by decide) hh ⟨okv_R (by decide), trivial⟩ ⟨okv_R (by decide), trivial⟩ ?_
  refine ev_putF fX5_11 rfl dX5_init_10 (fs := dF5) (show 0 < 2 by decide) (by rw [va_up_ne _ _ (by decide)]; exact hhb) (okT_A _ _) (by decide) ?_
  refine ev_iconst dX5_init_13 ?_
  refine ev_istore_n dX5_init_14 (by decide) ?_
  refine ev_ls [some (vR _), some (vI _)] rfl ?_
  refine ev_heq (HT 0) (allS (allS all0 rfl) rfl) (loop 8 0 rfl)
theorem i_X6 (l : Launch) {h : HP} (hh : okh 54 h) (hhb : h 53 = kO 6 dF6) : Con l yX6_init cX6_init 2 none 1 20 9 230 [vR 53] 54 h (fun r n' h' => r = none ∧ n' = 63 ∧ h' = HM h (g9 72)) := by
  refine con_of [some (vR 53), none] (by decide +kernel) (by decide) rfl ?_
  have loop : ∀ m i : Nat, i + m = 72 → Ev l yX6_init cX6_init 2 none { frames := 1, cells := 9, slots := 230, locals := 20 } eT (zM (fun r n' h' => r = none ∧ n' = 63 ∧ h' = HM h (g9 72)) 54 9 230) 54 78 [some (vR 53), some (vI (i : Int))] [] 63 9 230 (HM h (g9 i)) := by
    intro m
    induction m with
    | zero =>
      intro i hi
      have e8 : i = 72 := by omega
      subst e8
      refine ev_iload_n dX6_init_78 rfl ?_
      refine ev_bipush dX6_init_79 (by decide) ?_
      refine ev_icmp_ge 98 dX6_init_81 (by omega) (by omega) (fun _ => ?_) (fun q => by omega)
      exact ev_vret rfl dX6_init_98 ⟨rfl, rfl, rfl⟩ (by decide) (by decide)
    | succ m ih =>
      intro i hi
      refine ev_iload_n dX6_init_78 rfl ?_
      refine ev_bipush dX6_init_79 (by decide) ?_
      refine ev_icmp_ge 98 dX6_init_81 (by omega) (by omega) (fun q => by omega) (fun _ => ?_)
      refine ev_aload_n dX6_init_84 rfl ?_
      refine ev_get fX6_13.g dX6_init_85 (fs := [vI 0, vR 54, vR 55, vR 56, vI 0, vR 57, vL 0, vL 0, vL 0, vL 0, vL 0, vR 58, vR 59, vR 60, vR 61, vR 62, vL 0, vL 0]) (show 53 < 63 by decide) rfl rfl ?_
      refine ev_iload_n dX6_init_88 rfl ?_
      refine ev_ldc (200000) kX6_39 dX6_init_89 (by decide) ?_
      refine ev_iast dX6_init_91 (f := g9 i) (show 55 < 63 by decide) rfl (by omega) ?_
      rw [Int.toNat_natCast, g9_up]
      refine ev_iinc dX6_init_92 rfl (by decide) ?_
      refine ev_ls [some (vR _), some (vI _)] rfl ?_
      refine ev_goto 78 dX6_init_95 ?_
      refine ev_heq (HM h (g9 (i + 1))) (fun k hk => ?_) (ih (i + 1) (by omega))
      by_cases q0 : k = 55
      · subst q0; rw [va_up_self]; rfl
      · rw [va_up_ne _ _ q0]; unfold HM; rw [if_neg q0, if_neg q0]
  refine ev_aload_n dX6_init_0 rfl ?_
  refine ev_objInit oX6 oIn oCo dX6_init_1 (by decide) (by decide) ?_
  refine ev_aload_n dX6_init_4 rfl ?_
  refine ev_bipush dX6_init_5 (by decide) ?_
  refine ev_newI 48 rfl (by decide) arI dX6_init_7 (by decide) (hh) ⟨okv_R (by decide), trivial⟩ ⟨okv_R (by decide), trivial⟩ ?_
  refine ev_putF fX6_7 rfl dX6_init_9 (fs := [vI 0, vQ none, vQ none, vQ none, vI 0, vQ none, vL 0, vL 0, vL 0, vL 0, vL 0, vQ none, vQ none, vQ none, vQ none, vQ none, vL 0, vL 0]) (show 53 < 55 by decide) (by rw [va_up_ne _ _ (by decide)]; exact hhb) (okT_A _ _) (by decide) ?_
  refine ev_aload_n dX6_init_12 rfl ?_
  refine ev_bipush dX6_init_13 (by decide) ?_
  refine ev_newI 72 rfl (by decide) arI dX6_init_15 (by decide) (okh_set (okh_push (hh) trivial) (okO (fs := [vI 0, vR 54, vQ none, vQ none, vI 0, vQ none, vL 0, vL 0, vL 0, vL 0, vL 0, vQ none, vQ none, vQ none, vQ none, vQ none, vL 0, vL 0]) ⟨okv_I _, okv_R (by decide), okv_N, okv_N, okv_I _, okv_N, okv_L _, okv_L _, okv_L _, okv_L _, okv_L _, okv_N, okv_N, okv_N, okv_N, okv_N, okv_L _, okv_L _, trivial⟩)) ⟨okv_R (by decide), trivial⟩ ⟨okv_R (by decide), trivial⟩ ?_
  refine ev_putF fX6_13 rfl dX6_init_17 (fs := [vI 0, vR 54, vQ none, vQ none, vI 0, vQ none, vL 0, vL 0, vL 0, vL 0, vL 0, vQ none, vQ none, vQ none, vQ none, vQ none, vL 0, vL 0]) (show 53 < 56 by decide) rfl (okT_A _ _) (by decide) ?_
  refine ev_aload_n dX6_init_20 rfl ?_
  refine ev_bipush dX6_init_21 (by decide) ?_
  refine ev_newZ 8 rfl (by decide) arZ dX6_init_23 (by decide) (okh_set (okh_push (okh_set (okh_push (hh) trivial) (okO (fs := [vI 0, vR 54, vQ none, vQ none, vI 0, vQ none, vL 0, vL 0, vL 0, vL 0, vL 0, vQ none, vQ none, vQ none, vQ none, vQ none, vL 0, vL 0]) ⟨okv_I _, okv_R (by decide), okv_N, okv_N, okv_I _, okv_N, okv_L _, okv_L _, okv_L _, okv_L _, okv_L _, okv_N, okv_N, okv_N, okv_N, okv_N, okv_L _, okv_L _, trivial⟩)) trivial) (okO (fs := [vI 0, vR 54, vR 55, vQ none, vI 0, vQ none, vL 0, vL 0, vL 0, vL 0, vL 0, vQ none, vQ none, vQ none, vQ none, vQ none, vL 0, vL 0]) ⟨okv_I _, okv_R (by decide), okv_R (by decide), okv_N, okv_I _, okv_N, okv_L _, okv_L _, okv_L _, okv_L _, okv_L _, okv_N, okv_N, okv_N, okv_N, okv_N, okv_L _, okv_L _, trivial⟩)) ⟨okv_R (by decide), trivial⟩ ⟨okv_R (by decide), trivial⟩ ?_
  refine ev_putF fX6_16 rfl dX6_init_25 (fs := [vI 0, vR 54, vR 55, vQ none, vI 0, vQ none, vL 0, vL 0, vL 0, vL 0, vL 0, vQ none, vQ none, vQ none, vQ none, vQ none, vL 0, vL 0]) (show 53 < 57 by decide) rfl (okT_A _ _) (by decide) ?_
  refine ev_aload_n dX6_init_28 rfl ?_
  refine ev_bipush dX6_init_29 (by decide) ?_
  refine ev_newI 6 rfl (by decide) arI dX6_init_31 (by decide) (okh_set (okh_push (okh_set (okh_push (okh_set (okh_push (hh) trivial) (okO (fs := [vI 0, vR 54, vQ none, vQ none, vI 0, vQ none, vL 0, vL 0, vL 0, vL 0, vL 0, vQ none, vQ none, vQ none, vQ none, vQ none, vL 0, vL 0]) ⟨okv_I _, okv_R (by decide), okv_N, okv_N, okv_I _, okv_N, okv_L _, okv_L _, okv_L _, okv_L _, okv_L _, okv_N, okv_N, okv_N, okv_N, okv_N, okv_L _, okv_L _, trivial⟩)) trivial) (okO (fs := [vI 0, vR 54, vR 55, vQ none, vI 0, vQ none, vL 0, vL 0, vL 0, vL 0, vL 0, vQ none, vQ none, vQ none, vQ none, vQ none, vL 0, vL 0]) ⟨okv_I _, okv_R (by decide), okv_R (by decide), okv_N, okv_I _, okv_N, okv_L _, okv_L _, okv_L _, okv_L _, okv_L _, okv_N, okv_N, okv_N, okv_N, okv_N, okv_L _, okv_L _, trivial⟩)) trivial) (okO (fs := [vI 0, vR 54, vR 55, vR 56, vI 0, vQ none, vL 0, vL 0, vL 0, vL 0, vL 0, vQ none, vQ none, vQ none, vQ none, vQ none, vL 0, vL 0]) ⟨okv_I _, okv_R (by decide), okv_R (by decide), okv_R (by decide), okv_I _, okv_N, okv_L _, okv_L _, okv_L _, okv_L _, okv_L _, okv_N, okv_N, okv_N, okv_N, okv_N, okv_L _, okv_L _, trivial⟩)) ⟨okv_R (by decide), trivial⟩ ⟨okv_R (by decide), trivial⟩ ?_
  refine ev_putF fX6_20 rfl dX6_init_33 (fs := [vI 0, vR 54, vR 55, vR 56, vI 0, vQ none, vL 0, vL 0, vL 0, vL 0, vL 0, vQ none, vQ none, vQ none, vQ none, vQ none, vL 0, vL 0]) (show 53 < 58 by decide) rfl (okT_A _ _) (by decide) ?_
  refine ev_aload_n dX6_init_36 rfl ?_
  refine ev_bipush dX6_init_37 (by decide) ?_
  refine ev_newI 8 rfl (by decide) arI dX6_init_39 (by decide) (okh_set (okh_push (okh_set (okh_push (okh_set (okh_push (okh_set (okh_push (hh) trivial) (okO (fs := [vI 0, vR 54, vQ none, vQ none, vI 0, vQ none, vL 0, vL 0, vL 0, vL 0, vL 0, vQ none, vQ none, vQ none, vQ none, vQ none, vL 0, vL 0]) ⟨okv_I _, okv_R (by decide), okv_N, okv_N, okv_I _, okv_N, okv_L _, okv_L _, okv_L _, okv_L _, okv_L _, okv_N, okv_N, okv_N, okv_N, okv_N, okv_L _, okv_L _, trivial⟩)) trivial) (okO (fs := [vI 0, vR 54, vR 55, vQ none, vI 0, vQ none, vL 0, vL 0, vL 0, vL 0, vL 0, vQ none, vQ none, vQ none, vQ none, vQ none, vL 0, vL 0]) ⟨okv_I _, okv_R (by decide), okv_R (by decide), okv_N, okv_I _, okv_N, okv_L _, okv_L _, okv_L _, okv_L _, okv_L _, okv_N, okv_N, okv_N, okv_N, okv_N, okv_L _, okv_L _, trivial⟩)) trivial) (okO (fs := [vI 0, vR 54, vR 55, vR 56, vI 0, vQ none, vL 0, vL 0, vL 0, vL 0, vL 0, vQ none, vQ none, vQ none, vQ none, vQ none, vL 0, vL 0]) ⟨okv_I _, okv_R (by decide), okv_R (by decide), okv_R (by decide), okv_I _, okv_N, okv_L _, okv_L _, okv_L _, okv_L _, okv_L _, okv_N, okv_N, okv_N, okv_N, okv_N, okv_L _, okv_L _, trivial⟩)) trivial) (okO (fs := [vI 0, vR 54, vR 55, vR 56, vI 0, vR 57, vL 0, vL 0, vL 0, vL 0, vL 0, vQ none, vQ none, vQ none, vQ none, vQ none, vL 0, vL 0]) ⟨okv_I _, okv_R (by decide), okv_R (by decide), okv_R (by decide), okv_I _, okv_R (by decide), okv_L _, okv_L _, okv_L _, okv_L _, okv_L _, okv_N, okv_N, okv_N, okv_N, okv_N, okv_L _, okv_L _, trivial⟩)) ⟨okv_R (by decide), trivial⟩ ⟨okv_R (by decide), trivial⟩ ?_
  refine ev_putF fX6_23 rfl dX6_init_41 (fs := [vI 0, vR 54, vR 55, vR 56, vI 0, vR 57, vL 0, vL 0, vL 0, vL 0, vL 0, vQ none, vQ none, vQ none, vQ none, vQ none, vL 0, vL 0]) (show 53 < 59 by decide) rfl (okT_A _ _) (by decide) ?_
  refine ev_aload_n dX6_init_44 rfl ?_
  refine ev_bipush dX6_init_45 (by decide) ?_
  refine ev_newI 8 rfl (by decide) arI dX6_init_47 (by decide) (okh_set (okh_push (okh_set (okh_push (okh_set (okh_push (okh_set (okh_push (okh_set (okh_push (hh) trivial) (okO (fs := [vI 0, vR 54, vQ none, vQ none, vI 0, vQ none, vL 0, vL 0, vL 0, vL 0, vL 0, vQ none, vQ none, vQ none, vQ none, vQ none, vL 0, vL 0]) ⟨okv_I _, okv_R (by decide), okv_N, okv_N, okv_I _, okv_N, okv_L _, okv_L _, okv_L _, okv_L _, okv_L _, okv_N, okv_N, okv_N, okv_N, okv_N, okv_L _, okv_L _, trivial⟩)) trivial) (okO (fs := [vI 0, vR 54, vR 55, vQ none, vI 0, vQ none, vL 0, vL 0, vL 0, vL 0, vL 0, vQ none, vQ none, vQ none, vQ none, vQ none, vL 0, vL 0]) ⟨okv_I _, okv_R (by decide), okv_R (by decide), okv_N, okv_I _, okv_N, okv_L _, okv_L _, okv_L _, okv_L _, okv_L _, okv_N, okv_N, okv_N, okv_N, okv_N, okv_L _, okv_L _, trivial⟩)) trivial) (okO (fs := [vI 0, vR 54, vR 55, vR 56, vI 0, vQ none, vL 0, vL 0, vL 0, vL 0, vL 0, vQ none, vQ none, vQ none, vQ none, vQ none, vL 0, vL 0]) ⟨okv_I _, okv_R (by decide), okv_R (by decide), okv_R (by decide), okv_I _, okv_N, okv_L _, okv_L _, okv_L _, okv_L _, okv_L _, okv_N, okv_N, okv_N, okv_N, okv_N, okv_L _, okv_L _, trivial⟩)) trivial) (okO (fs := [vI 0, vR 54, vR 55, vR 56, vI 0, vR 57, vL 0, vL 0, vL 0, vL 0, vL 0, vQ none, vQ none, vQ none, vQ none, vQ none, vL 0, vL 0]) ⟨okv_I _, okv_R (by decide), okv_R (by decide), okv_R (by decide), okv_I _, okv_R (by decide), okv_L _, okv_L _, okv_L _, okv_L _, okv_L _, okv_N, okv_N, okv_N, okv_N, okv_N, okv_L _, okv_L _, trivial⟩)) trivial) (okO (fs := [vI 0, vR 54, vR 55, vR 56, vI 0, vR 57, vL 0, vL 0, vL 0, vL 0, vL 0, vR 58, vQ none, vQ none, vQ none, vQ none, vL 0, vL 0]) ⟨okv_I _, okv_R (by decide), okv_R (by decide), okv_R (by decide), okv_I _, okv_R (by decide), okv_L _, okv_L _, okv_L _, okv_L _, okv_L _, okv_R (by decide), okv_N, okv_N, okv_N, okv_N, okv_L _, okv_L _, trivial⟩)) ⟨okv_R (by decide), trivial⟩ ⟨okv_R (by decide), trivial⟩ ?_
  refine ev_putF fX6_26 rfl dX6_init_49 (fs := [vI 0, vR 54, vR 55, vR 56, vI 0, vR 57, vL 0, vL 0, vL 0, vL 0, vL 0, vR 58, vQ none, vQ none, vQ none, vQ none, vL 0, vL 0]) (show 53 < 60 by decide) rfl (okT_A _ _) (by decide) ?_
  refine ev_aload_n dX6_init_52 rfl ?_
  refine ev_bipush dX6_init_53 (by decide) ?_
  refine ev_newJ 64 rfl (by decide) arJ dX6_init_55 (by decide) (okh_set (okh_push (okh_set (okh_push (okh_set (okh_push (okh_set (okh_push (okh_set (okh_push (okh_set (okh_push (hh) trivial) (okO (fs := [vI 0, vR 54, vQ none, vQ none, vI 0, vQ none, vL 0, vL 0, vL 0, vL 0, vL 0, vQ none, vQ none, vQ none, vQ none, vQ none, vL 0, vL 0]) ⟨okv_I _, okv_R (by decide), okv_N, okv_N, okv_I _, okv_N, okv_L _, okv_L _, okv_L _, okv_L _, okv_L _, okv_N, okv_N, okv_N, okv_N, okv_N, okv_L _, okv_L _, trivial⟩)) trivial) (okO (fs := [vI 0, vR 54, vR 55, vQ none, vI 0, vQ none, vL 0, vL 0, vL 0, vL 0, vL 0, vQ none, vQ none, vQ none, vQ none, vQ none, vL 0, vL 0]) ⟨okv_I _, okv_R (by decide), okv_R (by decide), okv_N, okv_I _, okv_N, okv_L _, okv_L _, okv_L _, okv_L _, okv_L _, okv_N, okv_N, okv_N, okv_N, okv_N, okv_L _, okv_L _, trivial⟩)) trivial) (okO (fs := [vI 0, vR 54, vR 55, vR 56, vI 0, vQ none, vL 0, vL 0, vL 0, vL 0, vL 0, vQ none, vQ none, vQ none, vQ none, vQ none, vL 0, vL 0]) ⟨okv_I _, okv_R (by decide), okv_R (by decide), okv_R (by decide), okv_I _, okv_N, okv_L _, okv_L _, okv_L _, okv_L _, okv_L _, okv_N, okv_N, okv_N, okv_N, okv_N, okv_L _, okv_L _, trivial⟩)) trivial) (okO (fs := [vI 0, vR 54, vR 55, vR 56, vI 0, vR 57, vL 0, vL 0, vL 0, vL 0, vL 0, vQ none, vQ none, vQ none, vQ none, vQ none, vL 0, vL 0]) ⟨okv_I _, okv_R (by decide), okv_R (by decide), okv_R (by decide), okv_I _, okv_R (by decide), okv_L _, okv_L _, okv_L _, okv_L _, okv_L _, okv_N, okv_N, okv_N, okv_N, okv_N, okv_L _, okv_L _, trivial⟩)) trivial) (okO (fs := [vI 0, vR 54, vR 55, vR 56, vI 0, vR 57, vL 0, vL 0, vL 0, vL 0, vL 0, vR 58, vQ none, vQ none, vQ none, vQ none, vL 0, vL 0]) ⟨okv_I _, okv_R (by decide), okv_R (by decide), okv_R (by decide), okv_I _, okv_R (by decide), okv_L _, okv_L _, okv_L _, okv_L _, okv_L _, okv_R (by decide), okv_N, okv_N, okv_N, okv_N, okv_L _, okv_L _, trivial⟩)) trivial) (okO (fs := [vI 0, vR 54, vR 55, vR 56, vI 0, vR 57, vL 0, vL 0, vL 0, vL 0, vL 0, vR 58, vR 59, vQ none, vQ none, vQ none, vL 0, vL 0]) ⟨okv_I _, okv_R (by decide), okv_R (by decide), okv_R (by decide), okv_I _, okv_R (by decide), okv_L _, okv_L _, okv_L _, okv_L _, okv_L _, okv_R (by decide), okv_R (by decide), okv_N, okv_N, okv_N, okv_L _, okv_L _, trivial⟩)) ⟨okv_R (by decide), trivial⟩ ⟨okv_R (by decide), trivial⟩ ?_
  refine ev_putF fX6_29 rfl dX6_init_57 (fs := [vI 0, vR 54, vR 55, vR 56, vI 0, vR 57, vL 0, vL 0, vL 0, vL 0, vL 0, vR 58, vR 59, vQ none, vQ none, vQ none, vL 0, vL 0]) (show 53 < 61 by decide) rfl (okT_A _ _) (by decide) ?_
  refine ev_aload_n dX6_init_60 rfl ?_
  refine ev_bipush dX6_init_61 (by decide) ?_
  refine ev_newJ 8 rfl (by decide) arJ dX6_init_63 (by decide) (okh_set (okh_push (okh_set (okh_push (okh_set (okh_push (okh_set (okh_push (okh_set (okh_push (okh_set (okh_push (okh_set (okh_push (hh) trivial) (okO (fs := [vI 0, vR 54, vQ none, vQ none, vI 0, vQ none, vL 0, vL 0, vL 0, vL 0, vL 0, vQ none, vQ none, vQ none, vQ none, vQ none, vL 0, vL 0]) ⟨okv_I _, okv_R (by decide), okv_N, okv_N, okv_I _, okv_N, okv_L _, okv_L _, okv_L _, okv_L _, okv_L _, okv_N, okv_N, okv_N, okv_N, okv_N, okv_L _, okv_L _, trivial⟩)) trivial) (okO (fs := [vI 0, vR 54, vR 55, vQ none, vI 0, vQ none, vL 0, vL 0, vL 0, vL 0, vL 0, vQ none, vQ none, vQ none, vQ none, vQ none, vL 0, vL 0]) ⟨okv_I _, okv_R (by decide), okv_R (by decide), okv_N, okv_I _, okv_N, okv_L _, okv_L _, okv_L _, okv_L _, okv_L _, okv_N, okv_N, okv_N, okv_N, okv_N, okv_L _, okv_L _, trivial⟩)) trivial) (okO (fs := [vI 0, vR 54, vR 55, vR 56, vI 0, vQ none, vL 0, vL 0, vL 0, vL 0, vL 0, vQ none, vQ none, vQ none, vQ none, vQ none, vL 0, vL 0]) ⟨okv_I _, okv_R (by decide), okv_R (by decide), okv_R (by decide), okv_I _, okv_N, okv_L _, okv_L _, okv_L _, okv_L _, okv_L _, okv_N, okv_N, okv_N, okv_N, okv_N, okv_L _, okv_L _, trivial⟩)) trivial) (okO (fs := [vI 0, vR 54, vR 55, vR 56, vI 0, vR 57, vL 0, vL 0, vL 0, vL 0, vL 0, vQ none, vQ none, vQ none, vQ none, vQ none, vL 0, vL 0]) ⟨okv_I _, okv_R (by decide), okv_R (by decide), okv_R (by decide), okv_I _, okv_R (by decide), okv_L _, okv_L _, okv_L _, okv_L _, okv_L _, okv_N, okv_N, okv_N, okv_N, okv_N, okv_L _, okv_L _, trivial⟩)) trivial) (okO (fs := [vI 0, vR 54, vR 55, vR 56, vI 0, vR 57, vL 0, vL 0, vL 0, vL 0, vL 0, vR 58, vQ none, vQ none, vQ none, vQ none, vL 0, vL 0]) ⟨okv_I _, okv_R (by decide), okv_R (by decide), okv_R (by decide), okv_I _, okv_R (by decide), okv_L _, okv_L _, okv_L _, okv_L _, okv_L _, okv_R (by decide), okv_N, okv_N, okv_N, okv_N, okv_L _, okv_L _, trivial⟩)) trivial) (okO (fs := [vI 0, vR 54, vR 55, vR 56, vI 0, vR 57, vL 0, vL 0, vL 0, vL 0, vL 0, vR 58, vR 59, vQ none, vQ none, vQ none, vL 0, vL 0]) ⟨okv_I _, okv_R (by decide), okv_R (by decide), okv_R (by decide), okv_I _, okv_R (by decide), okv_L _, okv_L _, okv_L _, okv_L _, okv_L _, okv_R (by decide), okv_R (by decide), okv_N, okv_N, okv_N, okv_L _, okv_L _, trivial⟩)) trivial) (okO (fs := [vI 0, vR 54, vR 55, vR 56, vI 0, vR 57, vL 0, vL 0, vL 0, vL 0, vL 0, vR 58, vR 59, vR 60, vQ none, vQ none, vL 0, vL 0]) ⟨okv_I _, okv_R (by decide), okv_R (by decide), okv_R (by decide), okv_I _, okv_R (by decide), okv_L _, okv_L _, okv_L _, okv_L _, okv_L _, okv_R (by decide), okv_R (by decide), okv_R (by decide), okv_N, okv_N, okv_L _, okv_L _, trivial⟩)) ⟨okv_R (by decide), trivial⟩ ⟨okv_R (by decide), trivial⟩ ?_
  refine ev_putF fX6_33 rfl dX6_init_65 (fs := [vI 0, vR 54, vR 55, vR 56, vI 0, vR 57, vL 0, vL 0, vL 0, vL 0, vL 0, vR 58, vR 59, vR 60, vQ none, vQ none, vL 0, vL 0]) (show 53 < 62 by decide) rfl (okT_A _ _) (by decide) ?_
  refine ev_aload_n dX6_init_68 rfl ?_
  refine ev_bipush dX6_init_69 (by decide) ?_
  refine ev_newJ 8 rfl (by decide) arJ dX6_init_71 (by decide) (okh_set (okh_push (okh_set (okh_push (okh_set (okh_push (okh_set (okh_push (okh_set (okh_push (okh_set (okh_push (okh_set (okh_push (okh_set (okh_push (hh) trivial) (okO (fs := [vI 0, vR 54, vQ none, vQ none, vI 0, vQ none, vL 0, vL 0, vL 0, vL 0, vL 0, vQ none, vQ none, vQ none, vQ none, vQ none, vL 0, vL 0]) ⟨okv_I _, okv_R (by decide), okv_N, okv_N, okv_I _, okv_N, okv_L _, okv_L _, okv_L _, okv_L _, okv_L _, okv_N, okv_N, okv_N, okv_N, okv_N, okv_L _, okv_L _, trivial⟩)) trivial) (okO (fs := [vI 0, vR 54, vR 55, vQ none, vI 0, vQ none, vL 0, vL 0, vL 0, vL 0, vL 0, vQ none, vQ none, vQ none, vQ none, vQ none, vL 0, vL 0]) ⟨okv_I _, okv_R (by decide), okv_R (by decide), okv_N, okv_I _, okv_N, okv_L _, okv_L _, okv_L _, okv_L _, okv_L _, okv_N, okv_N, okv_N, okv_N, okv_N, okv_L _, okv_L _, trivial⟩)) trivial) (okO (fs := [vI 0, vR 54, vR 55, vR 56, vI 0, vQ none, vL 0, vL 0, vL 0, vL 0, vL 0, vQ none, vQ none, vQ none, vQ none, vQ none, vL 0, vL 0]) ⟨okv_I _, okv_R (by decide), okv_R (by decide), okv_R (by decide), okv_I _, okv_N, okv_L _, okv_L _, okv_L _, okv_L _, okv_L _, okv_N, okv_N, okv_N, okv_N, okv_N, okv_L _, okv_L _, trivial⟩)) trivial) (okO (fs := [vI 0, vR 54, vR 55, vR 56, vI 0, vR 57, vL 0, vL 0, vL 0, vL 0, vL 0, vQ none, vQ none, vQ none, vQ none, vQ none, vL 0, vL 0]) ⟨okv_I _, okv_R (by decide), okv_R (by decide), okv_R (by decide), okv_I _, okv_R (by decide), okv_L _, okv_L _, okv_L _, okv_L _, okv_L _, okv_N, okv_N, okv_N, okv_N, okv_N, okv_L _, okv_L _, trivial⟩)) trivial) (okO (fs := [vI 0, vR 54, vR 55, vR 56, vI 0, vR 57, vL 0, vL 0, vL 0, vL 0, vL 0, vR 58, vQ none, vQ none, vQ none, vQ none, vL 0, vL 0]) ⟨okv_I _, okv_R (by decide), okv_R (by decide), okv_R (by decide), okv_I _, okv_R (by decide), okv_L _, okv_L _, okv_L _, okv_L _, okv_L _, okv_R (by decide), okv_N, okv_N, okv_N, okv_N, okv_L _, okv_L _, trivial⟩)) trivial) (okO (fs := [vI 0, vR 54, vR 55, vR 56, vI 0, vR 57, vL 0, vL 0, vL 0, vL 0, vL 0, vR 58, vR 59, vQ none, vQ none, vQ none, vL 0, vL 0]) ⟨okv_I _, okv_R (by decide), okv_R (by decide), okv_R (by decide), okv_I _, okv_R (by decide), okv_L _, okv_L _, okv_L _, okv_L _, okv_L _, okv_R (by decide), okv_R (by decide), okv_N, okv_N, okv_N, okv_L _, okv_L _, trivial⟩)) trivial) (okO (fs := [vI 0, vR 54, vR 55, vR 56, vI 0, vR 57, vL 0, vL 0, vL 0, vL 0, vL 0, vR 58, vR 59, vR 60, vQ none, vQ none, vL 0, vL 0]) ⟨okv_I _, okv_R (by decide), okv_R (by decide), okv_R (by decide), okv_I _, okv_R (by decide), okv_L _, okv_L _, okv_L _, okv_L _, okv_L _, okv_R (by decide), okv_R (by decide), okv_R (by decide), okv_N, okv_N, okv_L _, okv_L _, trivial⟩)) trivial) (okO (fs := [vI 0, vR 54, vR 55, vR 56, vI 0, vR 57, vL 0, vL 0, vL 0, vL 0, vL 0, vR 58, vR 59, vR 60, vR 61, vQ none, vL 0, vL 0]) ⟨okv_I _, okv_R (by decide), okv_R (by decide), okv_R (by decide), okv_I _, okv_R (by decide), okv_L _, okv_L _, okv_L _, okv_L _, okv_L _, okv_R (by decide), okv_R (by decide), okv_R (by decide), okv_R (by decide), okv_N, okv_L _, okv_L _, trivial⟩)) ⟨okv_R (by decide), trivial⟩ ⟨okv_R (by decide), trivial⟩ ?_
  refine ev_putF fX6_36 rfl dX6_init_73 (fs := [vI 0, vR 54, vR 55, vR 56, vI 0, vR 57, vL 0, vL 0, vL 0, vL 0, vL 0, vR 58, vR 59, vR 60, vR 61, vQ none, vL 0, vL 0]) (show 53 < 63 by decide) rfl (okT_A _ _) (by decide) ?_
  refine ev_iconst dX6_init_76 ?_
  refine ev_istore_n dX6_init_77 (by decide) ?_
  refine ev_ls [some (vR _), some (vI _)] rfl ?_
  refine ev_heq (HM h (g9 0)) (allS (allS (allS (allS (allS (allS (allS (allS (allS (allS (allS (allS (allS (allS (allS (allS (allS (allS (allS (allS (allS (allS (allS (allS (allS (allS (allS (allS (allS (allS (allS (allS (allS (allS (allS (allS (allS (allS (allS (allS (allS (allS (allS (allS (allS (allS (allS (allS (allS (allS (allS (allS (allS (allS (allS (allS (allS (allS (allS (allS (allS (allS (allS all0 rfl) rfl) rfl) rfl) rfl) rfl) rfl) rfl) rfl) rfl) rfl) rfl) rfl) rfl) rfl) rfl) rfl) rfl) rfl) rfl) rfl) rfl) rfl) rfl) rfl) rfl) rfl) rfl) rfl) rfl) rfl) rfl) rfl) rfl) rfl) rfl) rfl) rfl) rfl) rfl) rfl) rfl) rfl) rfl) rfl) rfl) rfl) rfl) rfl) rfl) rfl) rfl) rfl) rfl) rfl) rfl) rfl) rfl) rfl) rfl) rfl) rfl) rfl) (loop 72 0 rfl)
