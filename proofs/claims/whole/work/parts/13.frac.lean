def msk : List (Option PV) → List Bool → List (Option PV)
  | [], _ => []
  | a :: r, [] => a :: r
  | a :: r, true :: m => a :: msk r m
  | _ :: r, false :: m => none :: msk r m
theorem lk_msk : ∀ {ls : List (Option PV)} {m : List Bool} {i : Nat} {v : PV}, lk (msk ls m) i = some v → lk ls i = some v
  | [], _, i, v, h => h
  | a :: r, [], i, v, h => h
  | a :: r, true :: m, 0, v, h => h
  | a :: r, true :: m, i + 1, v, h => lk_msk (ls := r) (m := m) h
  | a :: r, false :: m, 0, v, h => by simp [msk, lk] at h
  | a :: r, false :: m, i + 1, v, h => lk_msk (ls := r) (m := m) h
theorem ev_mask {l : Launch} {y : MethodName} {cc : ByteArray} {nL : Nat} {rt : Option FieldType} {R : Room} {E : EE} {Z : ZZ} {n0 pc : Nat} {ls : List (Option PV)} {st : List PV} {n ce sl : Nat} {h : HP} (m : List Bool) (k : Ev l y cc nL rt R E Z n0 pc (msk ls m) st n ce sl h) : Ev l y cc nL rt R E Z n0 pc ls st n ce sl h := by
  intro p e s m' args below meth c C D dA ad0 ad A H locs lsA a0 a1 a2 a3 hK hP hD hS hA hl
  exact k p e s m' args below meth c C D dA ad0 ad A H locs lsA a0 a1 a2 a3 hK hP hD hS hA ⟨hl.1, hl.2.1, fun i v hv => hl.2.2 i v (lk_msk hv)⟩
def gsJ (p lg sm : Nat) : Prop := sm = 0 ∨ ∃ p', p = p' + 1 ∧ sm * (lg % sm) < 2 ^ p'
theorem gsJ_step {p lg sm : Nat} (h : gsJ (p + 1) lg sm) (h0 : sm ≠ 0) : gsJ p sm (lg % sm) := by
  rcases h with h | ⟨p', e, h⟩
  · exact absurd h h0
  · have ep : p = p' := by omega
    subst ep
    by_cases hr : lg % sm = 0
    · exact Or.inl hr
    · refine Or.inr ?_
      have hlt : lg % sm < sm := Nat.mod_lt _ (by omega)
      generalize lg % sm = r at *
      have h1 : sm % r < r := Nat.mod_lt _ (by omega)
      have h2 := Nat.div_add_mod sm r
      have h3 : 1 ≤ sm / r := (Nat.le_div_iff_mul_le (by omega)).mpr (by omega)
      have h4 : r * 1 ≤ r * (sm / r) := Nat.mul_le_mul_left r h3
      have h5 : 2 * (sm % r) ≤ sm := by omega
      have h6 : r * (2 * (sm % r)) ≤ r * sm := Nat.mul_le_mul_left r h5
      have h7 : r * (2 * (sm % r)) = 2 * (r * (sm % r)) := by rw [← Nat.mul_assoc, Nat.mul_comm r 2, Nat.mul_assoc]
      have h8 : 1 ≤ sm * r := Nat.mul_pos (by omega) (by omega)
      rw [Nat.mul_comm sm r] at h h8
      cases p with
      | zero => simp at h; omega
      | succ q => exact ⟨q, rfl, by rw [Nat.pow_succ] at h; omega⟩
set_option maxRecDepth 100000 in
set_option maxHeartbeats 4000000 in
theorem c_gshared (l : Launch) (M : Mem) {a b : Int} (ha : -9223372036854775808 < a ∧ a < 9223372036854775808) (hb : -2147483648 < b ∧ b < 2147483648) : Cm l yX2_greatestShared cX2_greatestShared 11 (some .long) 0 0 [vL a, vL b] M (rL (Int.gcd a b : Int) M) := by
  refine cmo [some (vL a), none, some (vL b), none, none, none, none, none, none, none, none] ?_
  have loop : ∀ (p lg sm k : Nat), Nat.gcd lg sm = Int.gcd a b → lg < 9223372036854775808 → sm < 9223372036854775808 → gsJ p lg sm → k + p ≤ 99 → Em l yX2_greatestShared cX2_greatestShared 11 (some .long) 0 0 (rL (Int.gcd a b : Int) M) 31 [some (vL a), none, some (vL b), none, some (vL (lg : Int)), none, some (vL (sm : Int)), none, some (vI (k : Int)), none, none] [] M := by
    intro p
    induction p with
    | zero =>
      intro lg sm k hg hl hs hj hk
      refine ev_iload dX2_greatestShared_31 rfl ?_
      refine ev_bipush dX2_greatestShared_33 (by decide) ?_
      refine ev_icmp_ge 66 dX2_greatestShared_35 (by omega) (by omega) (fun c1 => ?_) (fun c1 => ?_)
      · omega
      · refine ev_lload dX2_greatestShared_38 rfl ?_
        refine ev_lconst0 dX2_greatestShared_40 ?_
        refine ev_lcmp_eq 66 dX2_greatestShared_41 dX2_greatestShared_42 (by omega) (by omega) (fun c2 => ?_) (fun c2 => ?_)
        · refine ev_lload dX2_greatestShared_66 rfl ?_
          have e0 : sm = 0 := by omega
          subst e0
          rw [Nat.gcd_zero_right] at hg
          exact em_lret dX2_greatestShared_68 ⟨rfl, by rw [hg]⟩
        · rcases hj with h | ⟨p', e, h⟩ <;> omega
    | succ p ih =>
      intro lg sm k hg hl hs hj hk
      refine ev_iload dX2_greatestShared_31 rfl ?_
      refine ev_bipush dX2_greatestShared_33 (by decide) ?_
      refine ev_icmp_ge 66 dX2_greatestShared_35 (by omega) (by omega) (fun c1 => ?_) (fun c1 => ?_)
      · omega
      · refine ev_lload dX2_greatestShared_38 rfl ?_
        refine ev_lconst0 dX2_greatestShared_40 ?_
        refine ev_lcmp_eq 66 dX2_greatestShared_41 dX2_greatestShared_42 (by omega) (by omega) (fun c2 => ?_) (fun c2 => ?_)
        · refine ev_lload dX2_greatestShared_66 rfl ?_
          have e0 : sm = 0 := by omega
          subst e0
          rw [Nat.gcd_zero_right] at hg
          exact em_lret dX2_greatestShared_68 ⟨rfl, by rw [hg]⟩
        · have hmod : (lg : Int).tmod (sm : Int) = ((lg % sm : Nat) : Int) := (Int.ofNat_tmod lg sm).symm
          have hlt : lg % sm < sm := Nat.mod_lt _ (by omega)
          refine ev_lload dX2_greatestShared_45 rfl ?_
          refine ev_lload dX2_greatestShared_47 rfl ?_
          refine ev_lrem dX2_greatestShared_49 (by omega) (by omega) (by omega) ?_
          rw [hmod]
          refine ev_lstore dX2_greatestShared_50 (by decide) ?_
          refine ev_ls [some (vL _), none, some (vL _), none, some (vL _), none, some (vL _), none, some (vI _), some (vL _), none] rfl ?_
          refine ev_lload dX2_greatestShared_52 rfl ?_
          refine ev_lstore dX2_greatestShared_54 (by decide) ?_
          refine ev_ls [some (vL _), none, some (vL _), none, some (vL _), none, some (vL _), none, some (vI _), some (vL _), none] rfl ?_
          refine ev_lload dX2_greatestShared_56 rfl ?_
          refine ev_lstore dX2_greatestShared_58 (by decide) ?_
          refine ev_ls [some (vL _), none, some (vL _), none, some (vL _), none, some (vL _), none, some (vI _), some (vL _), none] rfl ?_
          refine ev_iinc dX2_greatestShared_60 rfl (by decide) ?_
          refine ev_ls [some (vL _), none, some (vL _), none, some (vL _), none, some (vL _), none, some (vI _), some (vL _), none] rfl ?_
          refine ev_goto 31 dX2_greatestShared_63 ?_
          refine ev_mask [true, true, true, true, true, true, true, true, true, false, false] ?_
          exact ih sm (lg % sm) (k + 1) (by rw [← hg, Nat.gcd_comm sm, ← Nat.gcd_rec, Nat.gcd_comm]) (by omega) (by omega) (gsJ_step hj (by omega)) (by omega)
  have hj : gsJ 63 a.natAbs b.natAbs := by
    by_cases h0 : b.natAbs = 0
    · exact Or.inl h0
    · refine Or.inr ⟨62, rfl, ?_⟩
      have h1 : a.natAbs % b.natAbs < b.natAbs := Nat.mod_lt _ (by omega)
      have h2 : b.natAbs * (a.natAbs % b.natAbs) ≤ 2147483648 * 2147483647 := Nat.mul_le_mul (by omega) (by omega)
      exact Nat.lt_of_le_of_lt h2 (by decide)
  refine ev_lload_n dX2_greatestShared_0 rfl ?_
  refine ev_lconst0 dX2_greatestShared_1 ?_
  refine ev_lcmp_ge 11 dX2_greatestShared_2 dX2_greatestShared_3 (by omega) (by omega) (fun c2 => ?_) (fun c2 => ?_)
  · refine ev_lload_n dX2_greatestShared_11 rfl ?_
    refine ev_lstore dX2_greatestShared_12 (by decide) ?_
    refine ev_ls [some (vL _), none, some (vL _), none, some (vL _), none, none, none, none, none, none] rfl ?_
    refine ev_lload_n dX2_greatestShared_14 rfl ?_
    refine ev_lconst0 dX2_greatestShared_15 ?_
    refine ev_lcmp_ge 25 dX2_greatestShared_16 dX2_greatestShared_17 (by omega) (by omega) (fun c16 => ?_) (fun c16 => ?_)
    · refine ev_lload_n dX2_greatestShared_25 rfl ?_
      refine ev_lstore dX2_greatestShared_26 (by decide) ?_
      refine ev_ls [some (vL _), none, some (vL _), none, some (vL _), none, some (vL _), none, none, none, none] rfl ?_
      refine ev_iconst dX2_greatestShared_28 ?_
      refine ev_istore dX2_greatestShared_29 (by decide) ?_
      refine ev_ls [some (vL _), none, some (vL _), none, some (vL _), none, some (vL _), none, some (vI _), none, none] rfl ?_
      refine ev_mask [true, true, true, true, true, true, true, true, true, true, true] ?_
      have hfin := loop 63 a.natAbs b.natAbs 0 rfl (by omega) (by omega) hj (by omega)
      first | (rw [show ((a.natAbs : Nat) : Int) = -a by omega, show ((b.natAbs : Nat) : Int) = -b by omega] at hfin; exact hfin) | (rw [show ((a.natAbs : Nat) : Int) = -a by omega, show ((b.natAbs : Nat) : Int) = b by omega] at hfin; exact hfin) | (rw [show ((a.natAbs : Nat) : Int) = a by omega, show ((b.natAbs : Nat) : Int) = -b by omega] at hfin; exact hfin) | (rw [show ((a.natAbs : Nat) : Int) = a by omega, show ((b.natAbs : Nat) : Int) = b by omega] at hfin; exact hfin)
    · refine ev_lload_n dX2_greatestShared_20 rfl ?_
      refine ev_lneg dX2_greatestShared_21 ?_
      refine ev_goto 26 dX2_greatestShared_22 ?_
      refine ev_lstore dX2_greatestShared_26 (by decide) ?_
      refine ev_ls [some (vL _), none, some (vL _), none, some (vL _), none, some (vL _), none, none, none, none] rfl ?_
      refine ev_iconst dX2_greatestShared_28 ?_
      refine ev_istore dX2_greatestShared_29 (by decide) ?_
      refine ev_ls [some (vL _), none, some (vL _), none, some (vL _), none, some (vL _), none, some (vI _), none, none] rfl ?_
      refine ev_mask [true, true, true, true, true, true, true, true, true, true, true] ?_
      have hfin := loop 63 a.natAbs b.natAbs 0 rfl (by omega) (by omega) hj (by omega)
      first | (rw [show ((a.natAbs : Nat) : Int) = -a by omega, show ((b.natAbs : Nat) : Int) = -b by omega] at hfin; exact hfin) | (rw [show ((a.natAbs : Nat) : Int) = -a by omega, show ((b.natAbs : Nat) : Int) = b by omega] at hfin; exact hfin) | (rw [show ((a.natAbs : Nat) : Int) = a by omega, show ((b.natAbs : Nat) : Int) = -b by omega] at hfin; exact hfin) | (rw [show ((a.natAbs : Nat) : Int) = a by omega, show ((b.natAbs : Nat) : Int) = b by omega] at hfin; exact hfin)
  · refine ev_lload_n dX2_greatestShared_6 rfl ?_
    refine ev_lneg dX2_greatestShared_7 ?_
    refine ev_goto 12 dX2_greatestShared_8 ?_
    refine ev_lstore dX2_greatestShared_12 (by decide) ?_
    refine ev_ls [some (vL _), none, some (vL _), none, some (vL _), none, none, none, none, none, none] rfl ?_
    refine ev_lload_n dX2_greatestShared_14 rfl ?_
    refine ev_lconst0 dX2_greatestShared_15 ?_
    refine ev_lcmp_ge 25 dX2_greatestShared_16 dX2_greatestShared_17 (by omega) (by omega) (fun c16 => ?_) (fun c16 => ?_)
    · refine ev_lload_n dX2_greatestShared_25 rfl ?_
      refine ev_lstore dX2_greatestShared_26 (by decide) ?_
      refine ev_ls [some (vL _), none, some (vL _), none, some (vL _), none, some (vL _), none, none, none, none] rfl ?_
      refine ev_iconst dX2_greatestShared_28 ?_
      refine ev_istore dX2_greatestShared_29 (by decide) ?_
      refine ev_ls [some (vL _), none, some (vL _), none, some (vL _), none, some (vL _), none, some (vI _), none, none] rfl ?_
      refine ev_mask [true, true, true, true, true, true, true, true, true, true, true] ?_
      have hfin := loop 63 a.natAbs b.natAbs 0 rfl (by omega) (by omega) hj (by omega)
      first | (rw [show ((a.natAbs : Nat) : Int) = -a by omega, show ((b.natAbs : Nat) : Int) = -b by omega] at hfin; exact hfin) | (rw [show ((a.natAbs : Nat) : Int) = -a by omega, show ((b.natAbs : Nat) : Int) = b by omega] at hfin; exact hfin) | (rw [show ((a.natAbs : Nat) : Int) = a by omega, show ((b.natAbs : Nat) : Int) = -b by omega] at hfin; exact hfin) | (rw [show ((a.natAbs : Nat) : Int) = a by omega, show ((b.natAbs : Nat) : Int) = b by omega] at hfin; exact hfin)
    · refine ev_lload_n dX2_greatestShared_20 rfl ?_
      refine ev_lneg dX2_greatestShared_21 ?_
      refine ev_goto 26 dX2_greatestShared_22 ?_
      refine ev_lstore dX2_greatestShared_26 (by decide) ?_
      refine ev_ls [some (vL _), none, some (vL _), none, some (vL _), none, some (vL _), none, none, none, none] rfl ?_
      refine ev_iconst dX2_greatestShared_28 ?_
      refine ev_istore dX2_greatestShared_29 (by decide) ?_
      refine ev_ls [some (vL _), none, some (vL _), none, some (vL _), none, some (vL _), none, some (vI _), none, none] rfl ?_
      refine ev_mask [true, true, true, true, true, true, true, true, true, true, true] ?_
      have hfin := loop 63 a.natAbs b.natAbs 0 rfl (by omega) (by omega) hj (by omega)
      first | (rw [show ((a.natAbs : Nat) : Int) = -a by omega, show ((b.natAbs : Nat) : Int) = -b by omega] at hfin; exact hfin) | (rw [show ((a.natAbs : Nat) : Int) = -a by omega, show ((b.natAbs : Nat) : Int) = b by omega] at hfin; exact hfin) | (rw [show ((a.natAbs : Nat) : Int) = a by omega, show ((b.natAbs : Nat) : Int) = -b by omega] at hfin; exact hfin) | (rw [show ((a.natAbs : Nat) : Int) = a by omega, show ((b.natAbs : Nat) : Int) = b by omega] at hfin; exact hfin)
set_option maxRecDepth 100000 in
set_option maxHeartbeats 4000000 in
theorem c_partOf (l : Launch) {M : Mem} {r : Nat} {a : Int} (hr : r < 63) (hlf : lay r = lFrc) (ha : i32 a) : Cm l yX2_partOf cX2_partOf 2 (some .long) 0 0 [vR r, vI a] M (rL (if a = 0 then M r 0 else M r 1) M) := by
  refine cmo [some (vR r), some (vI a)] ?_
  refine ev_iload_n dX2_partOf_0 rfl ?_
  refine ev_if_ne 11 dX2_partOf_1 (by omega) (fun c1 => ?_) (fun c1 => ?_)
  · refine ev_aload_n dX2_partOf_11 rfl ?_
    refine em_getL fX2_13.g dX2_partOf_12 hlf rfl ?_
    exact em_lret dX2_partOf_15 ⟨rfl, by congr 3; split <;> first | rfl | omega⟩
  · refine ev_aload_n dX2_partOf_4 rfl ?_
    refine em_getL fX2_7.g dX2_partOf_5 hlf rfl ?_
    refine ev_goto 15 dX2_partOf_8 ?_
    exact em_lret dX2_partOf_15 ⟨rfl, by congr 3; split <;> first | rfl | omega⟩
set_option maxRecDepth 100000 in
set_option maxHeartbeats 4000000 in
theorem c_roundedDown (l : Launch) {M : Mem} {r : Nat} (hr : r < 63) (hlf : lay r = lFrc) (h0 : -9223372036854775808 < M r 0 ∧ M r 0 < 9223372036854775808) (h1 : 0 < M r 1 ∧ M r 1 < 9223372036854775808) : Cm l yX2_roundedDown cX2_roundedDown 1 (some .long) 1 25 [vR r] M (rL (M r 0 / M r 1) M) := by
  refine cmo [some (vR r)] ?_
  refine ev_aload_n dX2_roundedDown_0 rfl ?_
  refine em_getL fX2_13.g dX2_roundedDown_1 hlf rfl ?_
  refine ev_lconst0 dX2_roundedDown_4 ?_
  refine ev_lcmp_le 23 dX2_roundedDown_5 dX2_roundedDown_6 (by omega) (by omega) (fun c5 => ?_) (fun c5 => ?_)
  · refine ev_lconst0 dX2_roundedDown_23 ?_
    first | exact em_lret dX2_roundedDown_24 ⟨rfl, rfl⟩ | omega
  · refine ev_aload_n dX2_roundedDown_9 rfl ?_
    refine em_getL fX2_7.g dX2_roundedDown_10 hlf rfl ?_
    refine ev_aload_n dX2_roundedDown_13 rfl ?_
    refine em_getL fX2_13.g dX2_roundedDown_14 hlf rfl ?_
    refine em_S2 (c_fdL l _ (by omega) (by omega) (by omega)) mX2_20 dX2_roundedDown_17 ?_
    rintro r M ⟨rfl, rfl⟩
    refine ev_goto 24 dX2_roundedDown_20 ?_
    first | exact em_lret dX2_roundedDown_24 ⟨rfl, rfl⟩ | omega
set_option maxRecDepth 100000 in
set_option maxHeartbeats 4000000 in
theorem c_become (l : Launch) {M : Mem} {r : Nat} {a b : Int} (hr : r < 63) (hlf : lay r = lFrc) (ha : -9223372036854775808 < a ∧ a < 9223372036854775808) (hb : 0 < b ∧ b < 2147483648) : Cm l yX2_become cX2_become 9 none 1 30 [vR r, vL a, vL b] M (rV (up2 (up2 M r 0 (a.tdiv (Int.gcd a b : Int))) r 1 (b.tdiv (Int.gcd a b : Int)))) := by
  have hg1 : 0 < Int.gcd a b := Int.gcd_pos_of_ne_zero_right a (by omega)
  have hg2 : (Int.gcd a b : Int) ≤ b := Int.le_of_dvd (by omega) (Int.gcd_dvd_right a b)
  refine cmo [some (vR r), some (vL a), none, some (vL b), none, none, none, none, none] ?_
  refine ev_lload_n dX2_become_0 rfl ?_
  refine ev_lload_n dX2_become_1 rfl ?_
  refine em_S2 (c_gshared l _ (by omega) (by omega)) mX2_16 dX2_become_2 ?_
  rintro r M ⟨rfl, rfl⟩
  refine ev_lstore dX2_become_5 (by decide) ?_
  refine ev_ls [some (vR _), some (vL _), none, some (vL _), none, some (vL _), none, none, none] rfl ?_
  refine ev_lload_n dX2_become_7 rfl ?_
  refine ev_lconst0 dX2_become_8 ?_
  refine ev_lcmp_eq 20 dX2_become_9 dX2_become_10 (by omega) (by omega) (fun c9 => ?_) (fun c9 => ?_)
  · refine ev_aload_n dX2_become_20 rfl ?_
    refine ev_lconst0 dX2_become_21 ?_
    refine em_putL fX2_7 dX2_become_22 hlf rfl ?_
    refine ev_aload_n dX2_become_25 rfl ?_
    refine ev_lconst1 dX2_become_26 ?_
    refine em_putL fX2_13 dX2_become_27 hlf rfl ?_
    first | exact em_vret dX2_become_30 ⟨rfl, rfl⟩ | omega
  · refine ev_lload dX2_become_13 rfl ?_
    refine ev_lconst0 dX2_become_15 ?_
    refine ev_lcmp_ne 31 dX2_become_16 dX2_become_17 (by omega) (by omega) (fun c16 => ?_) (fun c16 => ?_)
    · refine ev_lload_n dX2_become_31 rfl ?_
      refine ev_lconst0 dX2_become_32 ?_
      refine ev_lcmp_ge 43 dX2_become_33 dX2_become_34 (by omega) (by omega) (fun c33 => ?_) (fun c33 => ?_)
      · refine ev_lload dX2_become_43 rfl ?_
        refine ev_lstore dX2_become_45 (by decide) ?_
        refine ev_ls [some (vR _), some (vL _), none, some (vL _), none, some (vL _), none, some (vL _), none] rfl ?_
        refine ev_aload_n dX2_become_47 rfl ?_
        refine ev_lload_n dX2_become_48 rfl ?_
        refine ev_lload dX2_become_49 rfl ?_
        refine ev_ldiv dX2_become_51 (by omega) (by omega) (by omega) ?_
        refine em_putL fX2_7 dX2_become_52 hlf rfl ?_
        refine ev_aload_n dX2_become_55 rfl ?_
        refine ev_lload_n dX2_become_56 rfl ?_
        refine ev_lload dX2_become_57 rfl ?_
        refine ev_ldiv dX2_become_59 (by omega) (by omega) (by omega) ?_
        refine em_putL fX2_13 dX2_become_60 hlf rfl ?_
        first | exact em_vret dX2_become_63 ⟨rfl, rfl⟩ | omega
      · refine ev_lload dX2_become_37 rfl ?_
        refine ev_lneg dX2_become_39 ?_
        refine ev_goto 45 dX2_become_40 ?_
        refine ev_lstore dX2_become_45 (by decide) ?_
        refine ev_ls [some (vR _), some (vL _), none, some (vL _), none, some (vL _), none, some (vL _), none] rfl ?_
        refine ev_aload_n dX2_become_47 rfl ?_
        refine ev_lload_n dX2_become_48 rfl ?_
        refine ev_lload dX2_become_49 rfl ?_
        refine ev_ldiv dX2_become_51 (by omega) (by omega) (by omega) ?_
        refine em_putL fX2_7 dX2_become_52 hlf rfl ?_
        refine ev_aload_n dX2_become_55 rfl ?_
        refine ev_lload_n dX2_become_56 rfl ?_
        refine ev_lload dX2_become_57 rfl ?_
        refine ev_ldiv dX2_become_59 (by omega) (by omega) (by omega) ?_
        refine em_putL fX2_13 dX2_become_60 hlf rfl ?_
        first | exact em_vret dX2_become_63 ⟨rfl, rfl⟩ | omega
    · refine ev_aload_n dX2_become_20 rfl ?_
      refine ev_lconst0 dX2_become_21 ?_
      refine em_putL fX2_7 dX2_become_22 hlf rfl ?_
      refine ev_aload_n dX2_become_25 rfl ?_
      refine ev_lconst1 dX2_become_26 ?_
      refine em_putL fX2_13 dX2_become_27 hlf rfl ?_
      first | exact em_vret dX2_become_30 ⟨rfl, rfl⟩ | omega
