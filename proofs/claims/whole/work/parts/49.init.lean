/-! the constructors -/
theorem okO {n c : Nat} {fs : List PV} (h : oks n fs) : okc n (kO c fs) := by
  show ∀ v ∈ fs, okv n v
  induction fs with
  | nil => intro v hv; cases hv
  | cons a r ih =>
    intro v hv
    rcases List.mem_cons.mp hv with q | q
    · rw [q]; exact h.1
    · exact ih h.2 v q
theorem okh_eq {n : Nat} {h h' : HP} (hh : okh n h) (he : ∀ k, k < n → h k = h' k) : okh n h' := fun k hk => by rw [← he k hk]; exact hh k hk
def g9 (i : Nat) : Nat → Int := fun j => if j < i then 200000 else 0
theorem g9_up (i : Nat) : va_up (g9 i) i 200000 = g9 (i + 1) := by
  funext j
  unfold g9 va_up
  by_cases h : j = i
  · rw [if_pos h, if_pos (by omega)]
  · rw [if_neg h]
    show (if j < i then (200000 : Int) else 0) = _
    by_cases h2 : j < i
    · rw [if_pos h2, if_pos (by omega)]
    · rw [if_neg h2, if_neg (by omega)]
theorem up_up {α : Type} (f : Nat → α) (k : Nat) (x z : α) : va_up (va_up f k x) k z = va_up f k z := by
  funext j
  by_cases h : j = k
  · subst h; rw [va_up_self, va_up_self]
  · rw [va_up_ne _ _ h, va_up_ne _ _ h, va_up_ne _ _ h]
theorem up_comm {α : Type} (f : Nat → α) {k r : Nat} (x z : α) (hkr : k ≠ r) : va_up (va_up f k x) r z = va_up (va_up f r z) k x := by
  funext j
  by_cases h : j = k
  · subst h; rw [va_up_ne _ _ hkr, va_up_self, va_up_self]
  · by_cases h2 : j = r
    · subst h2; rw [va_up_self, va_up_ne _ _ h, va_up_self]
    · rw [va_up_ne _ _ h2, va_up_ne _ _ h, va_up_ne _ _ h, va_up_ne _ _ h2]
theorem oIn : Cond.instanceMethod Lib.objectInit ∈ tbw := tb_at 15 (by decide +kernel) rfl
theorem oCo : Cond.code Lib.objectInit ⟨#[0xb1]⟩ 1 none ∈ tbw := tb_at 16 (by decide +kernel) rfl
theorem oX0 : Cond.methodLink RX0 3 Lib.objectInit ∈ tbw := tb_at 85 (by decide +kernel) rfl
theorem oX1 : Cond.methodLink RX1 3 Lib.objectInit ∈ tbw := tb_at 64 (by decide +kernel) rfl
theorem oX2 : Cond.methodLink RX2 1 Lib.objectInit ∈ tbw := tb_at 92 (by decide +kernel) rfl
theorem oX3 : Cond.methodLink RX3 3 Lib.objectInit ∈ tbw := tb_at 152 (by decide +kernel) rfl
theorem oX4 : Cond.methodLink RX4 3 Lib.objectInit ∈ tbw := tb_at 23 (by decide +kernel) rfl
theorem oX5 : Cond.methodLink RX5 3 Lib.objectInit ∈ tbw := tb_at 14 (by decide +kernel) rfl
theorem oX6 : Cond.methodLink RX6 1 Lib.objectInit ∈ tbw := tb_at 443 (by decide +kernel) rfl
theorem arI : Cond.arrayClass .int ∈ tbw := tb_at 58 (by decide +kernel) rfl
theorem arJ : Cond.arrayClass .long ∈ tbw := tb_at 146 (by decide +kernel) rfl
theorem arZ : Cond.arrayClass .boolean ∈ tbw := tb_at 500 (by decide +kernel) rfl
abbrev dF0 : List PV := [vQ none, vI 0, vI 0, vI 0, vL 0, vQ none, vQ none, vQ none, vQ none, vQ none, vL 0, vL 0]
theorem dfv0 : ∀ ad : Nat → Nat, ∀ j, j < 12 → defaultValue (tyX0 j) = vp_V (dF0.map (pm_v ad)) j := by
  intro ad j hj
  rcases (show j = 0 ∨ j = 1 ∨ j = 2 ∨ j = 3 ∨ j = 4 ∨ j = 5 ∨ j = 6 ∨ j = 7 ∨ j = 8 ∨ j = 9 ∨ j = 10 ∨ j = 11 by omega) with rfl | rfl | rfl | rfl | rfl | rfl | rfl | rfl | rfl | rfl | rfl | rfl <;> rfl
theorem dno0 : ∀ v ∈ dF0, ∀ r, v ≠ vR r := by
  intro v hv r he
  subst he
  simp [dF0] at hv
abbrev dF1 : List PV := [vI 0, vL 0, vL 0, vL 0]
theorem dfv1 : ∀ ad : Nat → Nat, ∀ j, j < 4 → defaultValue (tyX1 j) = vp_V (dF1.map (pm_v ad)) j := by
  intro ad j hj
  rcases (show j = 0 ∨ j = 1 ∨ j = 2 ∨ j = 3 by omega) with rfl | rfl | rfl | rfl <;> rfl
theorem dno1 : ∀ v ∈ dF1, ∀ r, v ≠ vR r := by
  intro v hv r he
  subst he
  simp [dF1] at hv
abbrev dF2 : List PV := [vL 0, vL 0]
theorem dfv2 : ∀ ad : Nat → Nat, ∀ j, j < 2 → defaultValue (tyX2 j) = vp_V (dF2.map (pm_v ad)) j := by
  intro ad j hj
  rcases (show j = 0 ∨ j = 1 by omega) with rfl | rfl <;> rfl
theorem dno2 : ∀ v ∈ dF2, ∀ r, v ≠ vR r := by
  intro v hv r he
  subst he
  simp [dF2] at hv
abbrev dF3 : List PV := [vQ none, vI 0]
theorem dfv3 : ∀ ad : Nat → Nat, ∀ j, j < 2 → defaultValue (tyX3 j) = vp_V (dF3.map (pm_v ad)) j := by
  intro ad j hj
  rcases (show j = 0 ∨ j = 1 by omega) with rfl | rfl <;> rfl
theorem dno3 : ∀ v ∈ dF3, ∀ r, v ≠ vR r := by
  intro v hv r he
  subst he
  simp [dF3] at hv
abbrev dF4 : List PV := [vI 0, vI 0, vI 0, vI 0, vI 0, vI 0, vI 0, vQ none]
theorem dfv4 : ∀ ad : Nat → Nat, ∀ j, j < 8 → defaultValue (tyX4 j) = vp_V (dF4.map (pm_v ad)) j := by
  intro ad j hj
  rcases (show j = 0 ∨ j = 1 ∨ j = 2 ∨ j = 3 ∨ j = 4 ∨ j = 5 ∨ j = 6 ∨ j = 7 by omega) with rfl | rfl | rfl | rfl | rfl | rfl | rfl | rfl <;> rfl
theorem dno4 : ∀ v ∈ dF4, ∀ r, v ≠ vR r := by
  intro v hv r he
  subst he
  simp [dF4] at hv
abbrev dF5 : List PV := [vQ none, vQ none, vQ none, vQ none, vQ none, vI 0, vI 0]
theorem dfv5 : ∀ ad : Nat → Nat, ∀ j, j < 7 → defaultValue (tyX5 j) = vp_V (dF5.map (pm_v ad)) j := by
  intro ad j hj
  rcases (show j = 0 ∨ j = 1 ∨ j = 2 ∨ j = 3 ∨ j = 4 ∨ j = 5 ∨ j = 6 by omega) with rfl | rfl | rfl | rfl | rfl | rfl | rfl <;> rfl
theorem dno5 : ∀ v ∈ dF5, ∀ r, v ≠ vR r := by
  intro v hv r he
  subst he
  simp [dF5] at hv
abbrev dF6 : List PV := [vI 0, vQ none, vQ none, vQ none, vI 0, vQ none, vL 0, vL 0, vL 0, vL 0, vL 0, vQ none, vQ none, vQ none, vQ none, vQ none, vL 0, vL 0]
theorem dfv6 : ∀ ad : Nat → Nat, ∀ j, j < 18 → defaultValue (tyX6 j) = vp_V (dF6.map (pm_v ad)) j := by
  intro ad j hj
  rcases (show j = 0 ∨ j = 1 ∨ j = 2 ∨ j = 3 ∨ j = 4 ∨ j = 5 ∨ j = 6 ∨ j = 7 ∨ j = 8 ∨ j = 9 ∨ j = 10 ∨ j = 11 ∨ j = 12 ∨ j = 13 ∨ j = 14 ∨ j = 15 ∨ j = 16 ∨ j = 17 by omega) with rfl | rfl | rfl | rfl | rfl | rfl | rfl | rfl | rfl | rfl | rfl | rfl | rfl | rfl | rfl | rfl | rfl | rfl <;> rfl
theorem dno6 : ∀ v ∈ dF6, ∀ r, v ≠ vR r := by
  intro v hv r he
  subst he
  simp [dF6] at hv
theorem lL_7 : Cond.classLink RL 7 RX5 ∈ tbw := tb_at 9 (by decide +kernel) rfl
theorem nL_7 : NW RL 7 5 dF5 7 := ⟨RX5, TX5, tyX5, rfl, inT5, tyX5_ok, lL_7, tb_at 10 (by decide +kernel) rfl, tb_at 1 (by decide +kernel) rfl, dfv5, dno5⟩
theorem lL_10 : Cond.classLink RL 10 RX6 ∈ tbw := tb_at 438 (by decide +kernel) rfl
theorem nL_10 : NW RL 10 6 dF6 18 := ⟨RX6, TX6, tyX6, rfl, inT6, tyX6_ok, lL_10, tb_at 439 (by decide +kernel) rfl, tb_at 7 (by decide +kernel) rfl, dfv6, dno6⟩
theorem lX0_9 : Cond.classLink RX0 9 RX2 ∈ tbw := tb_at 86 (by decide +kernel) rfl
theorem nX0_9 : NW RX0 9 2 dF2 2 := ⟨RX2, TX2, tyX2, rfl, inT2, tyX2_ok, lX0_9, tb_at 88 (by decide +kernel) rfl, tb_at 5 (by decide +kernel) rfl, dfv2, dno2⟩
theorem lX0_18 : Cond.classLink RX0 18 ("[" ++ (FieldType.array .int).toString) ∈ tbw := tb_at 100 (by decide +kernel) rfl
theorem lX0_30 : Cond.classLink RX0 30 ("[" ++ (FieldType.array .long).toString) ∈ tbw := tb_at 102 (by decide +kernel) rfl
theorem lX5_9 : Cond.classLink RX5 9 RX4 ∈ tbw := tb_at 17 (by decide +kernel) rfl
theorem nX5_9 : NW RX5 9 4 dF4 8 := ⟨RX4, TX4, tyX4, rfl, inT4, tyX4_ok, lX5_9, tb_at 19 (by decide +kernel) rfl, tb_at 2 (by decide +kernel) rfl, dfv4, dno4⟩
theorem lX5_16 : Cond.classLink RX5 16 RX1 ∈ tbw := tb_at 59 (by decide +kernel) rfl
theorem nX5_16 : NW RX5 16 1 dF1 4 := ⟨RX1, TX1, tyX1, rfl, inT1, tyX1_ok, lX5_16, tb_at 60 (by decide +kernel) rfl, tb_at 3 (by decide +kernel) rfl, dfv1, dno1⟩
theorem lX5_23 : Cond.classLink RX5 23 RX0 ∈ tbw := tb_at 80 (by decide +kernel) rfl
theorem nX5_23 : NW RX5 23 0 dF0 12 := ⟨RX0, TX0, tyX0, rfl, inT0, tyX0_ok, lX5_23, tb_at 81 (by decide +kernel) rfl, tb_at 4 (by decide +kernel) rfl, dfv0, dno0⟩
theorem lX5_30 : Cond.classLink RX5 30 RX3 ∈ tbw := tb_at 147 (by decide +kernel) rfl
theorem nX5_30 : NW RX5 30 3 dF3 2 := ⟨RX3, TX3, tyX3, rfl, inT3, tyX3_ok, lX5_30, tb_at 148 (by decide +kernel) rfl, tb_at 6 (by decide +kernel) rfl, dfv3, dno3⟩
theorem lX5_37 : Cond.classLink RX5 37 RX2 ∈ tbw := tb_at 162 (by decide +kernel) rfl
theorem nX5_37 : NW RX5 37 2 dF2 2 := ⟨RX2, TX2, tyX2, rfl, inT2, tyX2_ok, lX5_37, tb_at 88 (by decide +kernel) rfl, tb_at 5 (by decide +kernel) rfl, dfv2, dno2⟩
theorem okT3 {n b : Nat} {h : HP} {c1 c2 : PK} (hb : b < n) (hh : okh n h) (h1 : okc (n + 1) c1) (h2 : okc (n + 1) c2) : okh (n + 1) (va_up (va_up h b c1) n c2) := by
  rw [← up_comm _ _ _ (show n ≠ b by omega)]
  exact okh_set (okh_push hh h2) h1
theorem i_X2 (l : Launch) {n b : Nat} {h : HP} (hb : b < n) (hh : okh n h) (hhb : h b = kO 2 dF2) : Con l yX2_init cX2_init 1 none 1 20 0 0 [vR b] n h (fun r n' h' => r = none ∧ n' = n ∧ h' = va_up h b (kO 2 [vL 0, vL 1]) ∧ okh n' h') := by
  refine con_of [some (vR b)] (by decide +kernel) (Nat.le_of_ble_eq_true rfl) rfl ?_
  refine ev_aload_n dX2_init_0 rfl ?_
  refine ev_objInit oX2 oIn oCo dX2_init_1 (by decide) (by decide) ?_
  refine ev_aload_n dX2_init_4 rfl ?_
  refine ev_lconst0 dX2_init_5 ?_
  refine ev_put fX2_7 dX2_init_6 (fs := dF2) hb hhb (okT_L _) (by decide) ?_
  refine ev_aload_n dX2_init_9 rfl ?_
  refine ev_lconst1 dX2_init_10 ?_
  refine ev_put fX2_13 dX2_init_11 (fs := [vL 0, vL 0]) hb (by rw [va_up_self]; rfl) (okT_L _) (by decide) ?_
  rw [up_up]
  exact ev_vret rfl dX2_init_14 ⟨rfl, rfl, rfl, okh_set hh (okO ⟨okv_L _, okv_L _, trivial⟩)⟩ (by decide) (by decide)
theorem i_X1 (l : Launch) {n b : Nat} {h : HP} (hb : b < n) (hh : okh n h) (hhb : h b = kO 1 dF1) : Con l yX1_init cX1_init 1 none 1 20 0 0 [vR b] n h (fun r n' h' => r = none ∧ n' = n ∧ h' = va_up h b (kO 1 [vI 0, vL 1, vL 0, vL 0]) ∧ okh n' h') := by
  refine con_of [some (vR b)] (by decide +kernel) (Nat.le_of_ble_eq_true rfl) rfl ?_
  refine ev_aload_n dX1_init_0 rfl ?_
  refine ev_objInit oX1 oIn oCo dX1_init_1 (by decide) (by decide) ?_
  refine ev_aload_n dX1_init_4 rfl ?_
  refine ev_iconst dX1_init_5 ?_
  refine ev_put fX1_9 dX1_init_6 (fs := dF1) hb hhb (okT_Z (by decide)) (by decide) ?_
  refine ev_aload_n dX1_init_9 rfl ?_
  refine ev_lconst1 dX1_init_10 ?_
  refine ev_put fX1_15 dX1_init_11 (fs := [vI 0, vL 0, vL 0, vL 0]) hb (by rw [va_up_self]; rfl) (okT_L _) (by decide) ?_
  rw [up_up]
  exact ev_vret rfl dX1_init_14 ⟨rfl, rfl, rfl, okh_set hh (okO ⟨okv_I _, okv_L _, okv_L _, okv_L _, trivial⟩)⟩ (by decide) (by decide)
theorem i_X3 (l : Launch) {n b : Nat} {h : HP} (hb : b < n) (hh : okh n h) (hhb : h b = kO 3 dF3) : Con l yX3_init cX3_init 1 none 1 20 1 6 [vR b] n h (fun r n' h' => r = none ∧ n' = n + 1 ∧ h' = va_up (va_up h b (kO 3 [vR n, vI 0])) n (kI 6 (fun _ => 0)) ∧ okh n' h') := by
  refine con_of [some (vR b)] (by decide +kernel) (Nat.le_of_ble_eq_true rfl) rfl ?_
  refine ev_aload_n dX3_init_0 rfl ?_
  refine ev_objInit oX3 oIn oCo dX3_init_1 (by decide) (by decide) ?_
  refine ev_aload_n dX3_init_4 rfl ?_
  refine ev_bipush dX3_init_5 (by decide) ?_
  refine ev_newI 6 rfl (by decide) arI dX3_init_7 (by decide) hh ⟨okv_R hb, trivial⟩ ⟨okv_R hb, trivial⟩ ?_
  refine ev_putF fX3_9 rfl dX3_init_9 (fs := dF3) (show b < n + 1 by omega) (by rw [va_up_ne _ _ (by omega)]; exact hhb) (okT_A _ _) (by decide) ?_
  refine ev_aload_n dX3_init_12 rfl ?_
  refine ev_iconst dX3_init_13 ?_
  refine ev_put fX3_15 dX3_init_14 (fs := [vR n, vI 0]) (show b < n + 1 by omega) (by rw [va_up_self]; rfl) (okT_I _) (Nat.lt_of_lt_of_le (by decide) (Nat.le_refl 2)) ?_
  rw [up_up, up_comm _ _ _ (show n ≠ b by omega)]
  exact ev_vret rfl dX3_init_17 ⟨rfl, rfl, rfl, okT3 hb hh (okO ⟨okv_R (by omega), okv_I _, trivial⟩) trivial⟩ (by decide) (by decide)
theorem i_X4 (l : Launch) {n b : Nat} {h : HP} (hb : b < n) (hh : okh n h) (hhb : h b = kO 4 dF4) : Con l yX4_init cX4_init 2 none 1 20 1 9 [vR b] n h (fun r n' h' => r = none ∧ n' = n + 1 ∧ h' = va_up (va_up h b (kO 4 [vI 0, vI 0, vI 0, vI 0, vI 0, vI 0, vI 0, vR n])) n (kI 9 (g9 9)) ∧ okh n' h') := by
  refine con_of [some (vR b), none] (by decide +kernel) (Nat.le_of_ble_eq_true rfl) rfl ?_
  have loop : ∀ m i : Nat, i + m = 9 → Ev l yX4_init cX4_init 2 none { frames := 1, cells := 1, slots := 9, locals := 20 } eT (zM (fun r n' h' => r = none ∧ n' = n + 1 ∧ h' = va_up (va_up h b (kO 4 [vI 0, vI 0, vI 0, vI 0, vI 0, vI 0, vI 0, vR n])) n (kI 9 (g9 9)) ∧ okh n' h') n 1 9) n 14 [some (vR b), some (vI (i : Int))] [] (n + 1) 1 9 (va_up (va_up h b (kO 4 [vI 0, vI 0, vI 0, vI 0, vI 0, vI 0, vI 0, vR n])) n (kI 9 (g9 i))) := by
    intro m
    induction m with
    | zero =>
      intro i hi
      have e9 : i = 9 := by omega
      subst e9
      refine ev_iload_n dX4_init_14 rfl ?_
      refine ev_bipush dX4_init_15 (by decide) ?_
      refine ev_icmp_ge 34 dX4_init_17 (by omega) (by omega) (fun _ => ?_) (fun q => by omega)
      exact ev_vret rfl dX4_init_34 ⟨rfl, rfl, rfl, okT3 hb hh (okO ⟨okv_I _, okv_I _, okv_I _, okv_I _, okv_I _, okv_I _, okv_I _, okv_R (by omega), trivial⟩) trivial⟩ (by decide) (by decide)
    | succ m ih =>
      intro i hi
      refine ev_iload_n dX4_init_14 rfl ?_
      refine ev_bipush dX4_init_15 (by decide) ?_
      refine ev_icmp_ge 34 dX4_init_17 (by omega) (by omega) (fun q => by omega) (fun _ => ?_)
      refine ev_aload_n dX4_init_20 rfl ?_
      refine ev_get fX4_9.g dX4_init_21 (fs := [vI 0, vI 0, vI 0, vI 0, vI 0, vI 0, vI 0, vR n]) (show b < n + 1 by omega) (by rw [va_up_ne _ _ (by omega), va_up_self]) rfl ?_
      refine ev_iload_n dX4_init_24 rfl ?_
      refine ev_ldc (200000) kX4_15 dX4_init_25 (by decide) ?_
      refine ev_iast dX4_init_27 (f := g9 i) (show n < n + 1 by omega) (by rw [va_up_self]) (by omega) ?_
      rw [Int.toNat_natCast, up_up, g9_up]
      refine ev_iinc dX4_init_28 rfl (by decide) ?_
      refine ev_ls [some (vR _), some (vI _)] rfl ?_
      refine ev_goto 14 dX4_init_31 ?_
      exact ih (i + 1) (by omega)
  refine ev_aload_n dX4_init_0 rfl ?_
  refine ev_objInit oX4 oIn oCo dX4_init_1 (by decide) (by decide) ?_
  refine ev_aload_n dX4_init_4 rfl ?_
  refine ev_bipush dX4_init_5 (by decide) ?_
  refine ev_newI 9 rfl (by decide) arI dX4_init_7 (by decide) hh ⟨okv_R hb, trivial⟩ ⟨okv_R hb, trivial⟩ ?_
  refine ev_putF fX4_9 rfl dX4_init_9 (fs := dF4) (show b < n + 1 by omega) (by rw [va_up_ne _ _ (by omega)]; exact hhb) (okT_A _ _) (by decide) ?_
  refine ev_iconst dX4_init_12 ?_
  refine ev_istore_n dX4_init_13 (by decide) ?_
  refine ev_ls [some (vR _), some (vI _)] rfl ?_
  rw [up_comm _ _ _ (show n ≠ b by omega)]
  exact loop 9 0 rfl
