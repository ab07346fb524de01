/-! the law's own rows: the script, the compares -/
def sx (xs : Nat → Int32) (j : Nat) : Int := (xs j).toInt
theorem sx_i32 (xs : Nat → Int32) (j : Nat) : -2147483648 ≤ sx xs j ∧ sx xs j < 2147483648 := ⟨Int32.le_toInt _, by have := Int32.toInt_lt (xs j); unfold sx; omega⟩
def EL (b L : Nat) (xs : Nat → Int32) : EE := fun s A => va_X b L xs s s.heap ∧ b < s.heap.size ∧ ¬ A b
def ZL (b : Nat) : ZZ := fun below args s _ _ ad0 A t => ad0 63 = b → (∀ q, A q → s.heap.size ≤ q) → args = #[Value.ref b] → lw_Z below args s t
section LR
variable {l : Launch} {y : MethodName} {cc : ByteArray} {nL : Nat} {rt : Option FieldType} {R : Room} {E : EE} {Z : ZZ} {n0 pc : Nat} {ls : List (Option PV)} {st : List PV} {n ce sl : Nat} {h : HP} {b L : Nat} {xs : Nat → Int32}
theorem ev_sld (hd : decode cc pc = .ok (.iaload, 1)) {z : Int} (hz : 0 ≤ z ∧ z < (L : Int)) (hL : L ≤ 3584) (kk : Ev l y cc nL rt R (EL b L xs) (ZL b) 63 (pc + 1) ls (vI (sx xs z.toNat) :: st) 63 ce sl h) : Ev l y cc nL rt R (EL b L xs) (ZL b) 63 pc ls (vI z :: vR 63 :: st) 63 ce sl h := by
  intro p e s m args below meth c C D dA ad0 ad A H locs lsA a0 a1 a2 a3 hK hP hD hS hA hl
  by_cases hb : ad0 63 = b
  · have ea := a3 rfl
    subst ea
    obtain ⟨i1, i2⟩ := pm_idx hz (by omega)
    have k2 := kk p e s m args below meth c C D dA ad ad A H locs lsA a0 a1 a2 a3 hK hP hD hS hA hl
    rw [List.map_cons, show pm_v ad (vI (sx xs z.toNat)) = .int (xs z.toNat) from by show Value.int (Int32.ofInt (xs z.toNat).toInt) = _; rw [Int32.ofInt_toInt]] at k2
    rw [List.map_cons, List.map_cons, show pm_v ad (vR 63) = .ref b from by show va_rf (some (ad 63)) = _; rw [hb]; rfl]
    refine va_sld C.1 C.2.1 a0.1 a0.2.1 a0.2.2 hS i1 hd ?_
    rw [i2]
    exact k2
  · exact fun T hT X => ⟨_, Steps.refl _, fun q => absurd q hb⟩
theorem ev_slen (hd : decode cc pc = .ok (.arraylength, 1)) (kk : Ev l y cc nL rt R (EL b L xs) (ZL b) 63 (pc + 1) ls (vI (L : Int) :: st) 63 ce sl h) : Ev l y cc nL rt R (EL b L xs) (ZL b) 63 pc ls (vR 63 :: st) 63 ce sl h := by
  intro p e s m args below meth c C D dA ad0 ad A H locs lsA a0 a1 a2 a3 hK hP hD hS hA hl
  by_cases hb : ad0 63 = b
  · have ea := a3 rfl
    subst ea
    have k2 := kk p e s m args below meth c C D dA ad ad A H locs lsA a0 a1 a2 a3 hK hP hD hS hA hl
    rw [List.map_cons, show pm_v ad (vI (L : Int)) = .int (Int32.ofNat L) from by show Value.int (Int32.ofInt (L : Int)) = _; rw [Int32.ofInt_eq_ofNat]] at k2
    rw [List.map_cons, show pm_v ad (vR 63) = .ref b from by show va_rf (some (ad 63)) = _; rw [hb]; rfl]
    exact va_slen C.1 C.2.1 a0.1 a0.2.1 a0.2.2 hS hd k2
  · exact fun T hT X => ⟨_, Steps.refl _, fun q => absurd q hb⟩
theorem and15 (x : Int32) : 0 ≤ (x &&& 15).toInt ∧ (x &&& 15).toInt ≤ 15 := by
  have h1 : (x &&& 15).toBitVec.toNat ≤ 15 := by
    rw [Int32.toBitVec_and, BitVec.toNat_and]
    exact Nat.and_le_right
  have h2 : (x &&& 15).toInt = ((x &&& 15).toBitVec.toNat : Int) := by
    show (x &&& 15).toBitVec.toInt = _
    exact BitVec.toInt_eq_toNat_of_lt (by omega)
  omega
theorem ev_and15 (hd : decode cc pc = .ok (.iand, 1)) {x : Int} (kk : ∀ w : Int, 0 ≤ w → w ≤ 15 → Ev l y cc nL rt R E Z n0 (pc + 1) ls (vI w :: st) n ce sl h) : Ev l y cc nL rt R E Z n0 pc ls (vI 15 :: vI x :: st) n ce sl h := by
  intro p e s m args below meth c C D dA ad0 ad A H locs lsA a0 a1 a2 a3 hK hP hD hS hA hl
  have hw := and15 (Int32.ofInt x)
  have k2 := kk _ hw.1 hw.2 p e s m args below meth c C D dA ad0 ad A H locs lsA a0 a1 a2 a3 hK hP hD hS hA hl
  rw [List.map_cons, show pm_v ad (vI (Int32.ofInt x &&& 15).toInt) = .int (Int32.ofInt x &&& 15) from by show Value.int (Int32.ofInt (Int32.ofInt x &&& 15).toInt) = _; rw [Int32.ofInt_toInt]] at k2
  exact lv_iand C.1 C.2.1 hd k2
theorem ev_icmp_self {off : Int} (tgt : Nat) {x z : Int} (e : x = z) (hd : decode cc pc = .ok (.if_icmp .eq off, 3)) (kt : Ev l y cc nL rt R E Z n0 tgt ls st n ce sl h) (ht : (pc : Int) + off = (tgt : Int) := by decide) : Ev l y cc nL rt R E Z n0 pc ls (vI z :: vI x :: st) n ce sl h := by
  subst e
  intro p e s m args below meth c C D dA ad0 ad A H locs lsA a0 a1 a2 a3 hK hP hD hS hA hl
  exact lv_icmp_eq C.1 C.2.1 hd ht (fun _ => kt p e s m args below meth c C D dA ad0 ad A H locs lsA a0 a1 a2 a3 hK hP hD hS hA hl) (fun q => absurd rfl q)
theorem ev_lcmp_self {off : Int} (tgt : Nat) {x z : Int} (e : x = z) (hd0 : decode cc pc = .ok (.lcmp, 1)) (hd : decode cc (pc + 1) = .ok (.ifCond .eq off, 3)) (kt : Ev l y cc nL rt R E Z n0 tgt ls st n ce sl h) (ht : ((pc + 1 : Nat) : Int) + off = (tgt : Int) := by decide) : Ev l y cc nL rt R E Z n0 pc ls (vL z :: vL x :: st) n ce sl h := by
  subst e
  intro p e s m args below meth c C D dA ad0 ad A H locs lsA a0 a1 a2 a3 hK hP hD hS hA hl
  exact W.lcmp C.1 C.2.1 hd0 (lv_if_eq C.1 C.2.1 hd ht (fun _ => kt p e s m args below meth c C D dA ad0 ad A H locs lsA a0 a1 a2 a3 hK hP hD hS hA hl) (fun q => absurd ((lg_cmp_eq _ _).mpr rfl) q))
/-- the law's end -/
theorem ev_lawret (hd : decode cL_law pc = .ok (.ireturn, 1)) (hce : ce ≤ 600000) (hsl : sl ≤ 7302250) : Ev l y cL_law nL ret room_1 (EL b L xs) (ZL b) n0 pc ls [vI 1] n ce sl h := by
  intro p e s m args below meth c C D dA ad0 ad A H locs lsA a0 a1 a2 a3 hK hP hD hS hA hl
  by_cases hq : ad0 63 = b ∧ (∀ q, A q → s.heap.size ≤ q) ∧ args = #[Value.ref b]
  · obtain ⟨q1, q2, q3⟩ := hq
    subst q3
    refine W.widen hce hsl (va_forget (fun q hq => q2 _ (hS.2.2 q hq)) ?_)
    intro T hT X
    obtain ⟨t, b1, b2⟩ := lw_ret (l := l) (e := e) (below := below) C.1 C.2.1 C.2.2.1 C.2.2.2.2.2.2.1 (H := H) (ls := lsA) (s := s) (m := m) (b := b) hd T hT X
    exact ⟨t, b1, fun _ _ _ => b2⟩
  · exact fun T hT X => ⟨_, Steps.refl _, fun q1 q2 q3 => absurd ⟨q1, q2, q3⟩ hq⟩
end LR
/-- both objects between two calls, whatever was called before -/
def Inv (M : Mem) : Prop := ∃ M0 T N c, IV M0 T N c M
theorem Inv.start : Inv MZ := by
  obtain ⟨c, hc⟩ := lab_exists (eD (gh MZ (MZ 51))) 0
  have hk := gh_2 MZ (MZ 51)
  refine ⟨gh MZ (MZ 51), 0, 0, c, IV.mk ⟨by omega, fun t ht => by omega⟩ ⟨fun k h1 _ => (hk k h1).symm, (hk _ (by omega)).symm, (hk _ (by omega)).symm, (hk _ (by omega)).symm⟩ (gh_UT hk (fun t _ ht => ?_)) hc rfl rfl (by omega) rfl rfl (gh_1 _ _).symm (fun k hk6 => ?_) (fun k hkN => by omega) (Or.inl rfl)⟩
  · have h1 : MZ (2 + 2 * t) = fun _ => 0 := by
      unfold MZ
      rw [if_neg (by omega), if_pos (by omega), if_pos (by omega)]
    have h2 : MZ (2 + 2 * t + 1) = g9 9 := by
      unfold MZ
      rw [if_neg (by omega), if_pos (by omega), if_neg (by omega)]
    refine ⟨by rw [h1], rfl, fun i hi => ⟨?_, ?_⟩⟩
    · rw [h2]; unfold g9; rw [if_pos hi]
    · show g9 72 (9 * t + i) = 200000
      unfold g9; rw [if_pos (by omega)]
  · rw [gh_1]; rfl
theorem st_track {M0 : Mem} {T N : Nat} {c : Nat → Nat} {M M1 M2 : Mem} {x0 y0 x1 y1 t0 t1 : Int} (h : IV M0 T N c M) (q1 : (¬ (VT x0 y0 x1 y1 t0 t1 ∧ T < 8) ∧ M1 = M) ∨ (VT x0 y0 x1 y1 t0 t1 ∧ T < 8 ∧ TUc M T x0 y0 x1 y1 t0 t1 M1)) (q2 : (¬ (VT x0 y0 x1 y1 t0 t1 ∧ T < 8) ∧ M2 = M1) ∨ (VT x0 y0 x1 y1 t0 t1 ∧ T < 8 ∧ TUm M1 T x0 y0 x1 y1 t0 t1 M2)) : Inv M2 := by
  rcases q1 with ⟨a, rfl⟩ | ⟨a1, a2, a3⟩
  · rcases q2 with ⟨b, rfl⟩ | ⟨b1, b2, b3⟩
    · exact ⟨_, _, _, _, h⟩
    · exact absurd ⟨b1, b2⟩ a
  · rcases q2 with ⟨b, rfl⟩ | ⟨b1, b2, b3⟩
    · exact absurd ⟨a1, a2⟩ b
    · exact iv_track h a1 a2 a3 b3
theorem st_tone {M0 : Mem} {T N : Nat} {c : Nat → Nat} {M M1 M2 : Mem} {x : Int} (h : IV M0 T N c M) (q1 : (((1 ≤ x ∧ x ≤ 1000000) ∧ N < 6) ∧ M1 = up2 (up2 M 51 N x) 50 1 ((N : Int) + 1)) ∨ (¬ ((1 ≤ x ∧ x ≤ 1000000) ∧ N < 6) ∧ M1 = M)) (q2 : (((1 ≤ x ∧ x ≤ 1000000) ∧ N < 6) ∧ M2 = up2 (up2 M1 57 N x) 53 4 ((N : Int) + 1)) ∨ (¬ ((1 ≤ x ∧ x ≤ 1000000) ∧ N < 6) ∧ M2 = M1)) : Inv M2 := by
  rcases q1 with ⟨a, rfl⟩ | ⟨a, rfl⟩
  · rcases q2 with ⟨b, rfl⟩ | ⟨b, rfl⟩
    · exact iv_tone h a.2 a.1
    · exact absurd a b
  · rcases q2 with ⟨b, rfl⟩ | ⟨b, rfl⟩
    · exact absurd b a
    · exact ⟨_, _, _, _, h⟩
