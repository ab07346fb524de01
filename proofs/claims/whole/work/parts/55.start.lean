theorem IX0 : Cond.instantiable RX0 12 ∈ tbw := tb_at 81 (by decide +kernel) rfl
theorem IX1 : Cond.instantiable RX1 4 ∈ tbw := tb_at 60 (by decide +kernel) rfl
theorem IX2 : Cond.instantiable RX2 2 ∈ tbw := tb_at 88 (by decide +kernel) rfl
theorem IX3 : Cond.instantiable RX3 2 ∈ tbw := tb_at 148 (by decide +kernel) rfl
theorem IX4 : Cond.instantiable RX4 8 ∈ tbw := tb_at 19 (by decide +kernel) rfl
theorem IX5 : Cond.instantiable RX5 7 ∈ tbw := tb_at 10 (by decide +kernel) rfl
theorem IX6 : Cond.instantiable RX6 18 ∈ tbw := tb_at 439 (by decide +kernel) rfl
/-! from the law's entry to its loop -/
theorem pm_K0 {s : State} {args : Array Value} (hts : ∀ w ∈ lw_tbl, w.before args s = true) : ∃ D dA, pm_K D dA s := by
  have htb : ∀ w ∈ tbw, w.before args s = true := fun w hw => hts w (List.mem_filter.mp hw).1
  obtain ⟨c0, s0, u0⟩ := u_known (C := RX0) (T := TX0) (N := 12) (n := 12) htb inT0 (htb _ IX0)
  obtain ⟨c1, s1, u1⟩ := u_known (C := RX1) (T := TX1) (N := 4) (n := 4) htb inT1 (htb _ IX1)
  obtain ⟨c2, s2, u2⟩ := u_known (C := RX2) (T := TX2) (N := 2) (n := 2) htb inT2 (htb _ IX2)
  obtain ⟨c3, s3, u3⟩ := u_known (C := RX3) (T := TX3) (N := 2) (n := 2) htb inT3 (htb _ IX3)
  obtain ⟨c4, s4, u4⟩ := u_known (C := RX4) (T := TX4) (N := 8) (n := 8) htb inT4 (htb _ IX4)
  obtain ⟨c5, s5, u5⟩ := u_known (C := RX5) (T := TX5) (N := 7) (n := 7) htb inT5 (htb _ IX5)
  obtain ⟨c6, s6, u6⟩ := u_known (C := RX6) (T := TX6) (N := 18) (n := 18) htb inT6 (htb _ IX6)
  obtain ⟨a0, k0, p0, f0, g0, e0⟩ := Cond.arrayClass_spec (htb _ arI)
  obtain ⟨a1, k1, p1, f1, g1, e1⟩ := Cond.arrayClass_spec (htb _ arJ)
  obtain ⟨a2, k2, p2, f2, g2, e2⟩ := Cond.arrayClass_spec (htb _ arZ)
  have w3 : (Cond.arrayOver (.object RX4)).before args s = true := hts _ (List.mem_append_right _ (List.mem_of_getElem? (i := 18) (by decide +kernel)))
  have w4 : (Cond.arrayOver (.object RX2)).before args s = true := hts _ (List.mem_append_right _ (List.mem_of_getElem? (i := 87) (by decide +kernel)))
  have w5 : (Cond.arrayOver (.array .int)).before args s = true := hts _ (List.mem_append_right _ (List.mem_of_getElem? (i := 101) (by decide +kernel)))
  have w6 : (Cond.arrayOver (.array .long)).before args s = true := hts _ (List.mem_append_right _ (List.mem_of_getElem? (i := 103) (by decide +kernel)))
  obtain ⟨p3, a3, k3, b3, -, g3, e3, f3⟩ := Cond.arrayOver_spec w3
  obtain ⟨p4, a4, k4, b4, -, g4, e4, f4⟩ := Cond.arrayOver_spec w4
  obtain ⟨p5, a5, k5, b5, g5, e5, f5⟩ := gx_over w5
  obtain ⟨p6, a6, k6, b6, g6, e6, f6⟩ := gx_over w6
  refine ⟨(fun k => match k with | 0 => c0 | 1 => c1 | 2 => c2 | 3 => c3 | 4 => c4 | 5 => c5 | _ => c6, fun k => match k with | 0 => s0 | 1 => s1 | 2 => s2 | 3 => s3 | 4 => s4 | 5 => s5 | _ => s6), (fun k => match k with | 0 => a0 | 1 => a1 | 2 => a2 | 3 => a3 | 4 => a4 | 5 => a5 | _ => a6), ⟨fun k q hq => ?_, fun k q hq => ?_⟩, w3, w4, w5, w6⟩
  · match k, hq with
    | 0, hq => cases hq; exact u0
    | 1, hq => cases hq; exact u1
    | 2, hq => cases hq; exact u2
    | 3, hq => cases hq; exact u3
    | 4, hq => cases hq; exact u4
    | 5, hq => cases hq; exact u5
    | 6, hq => cases hq; exact u6
    | k + 7, hq => simp [vwCl] at hq
  · match k, hq with
    | 0, hq => cases hq; exact ⟨fun N z => ⟨(fun k h => by cases h), k0, g0, p0, e0⟩, f0⟩
    | 1, hq => cases hq; exact ⟨fun N z => ⟨(fun k h => by cases h), k1, g1, p1, e1⟩, f1⟩
    | 2, hq => cases hq; exact ⟨fun N z => ⟨(fun k h => by cases h), k2, g2, p2, e2⟩, f2⟩
    | 3, hq => cases hq; exact ⟨fun N z => ⟨(fun k h => by cases h), k3, g3, p3, e3⟩, k3, p3, g3, e3, b3, f3⟩
    | 4, hq => cases hq; exact ⟨fun N z => ⟨(fun k h => by cases h), k4, g4, p4, e4⟩, k4, p4, g4, e4, b4, f4⟩
    | 5, hq => cases hq; exact ⟨fun N z => ⟨(fun k h => by cases h), k5, g5, p5, e5⟩, f5⟩
    | 6, hq => cases hq; exact ⟨fun N z => ⟨(fun k h => by cases h), k6, g6, p6, e6⟩, f6⟩
    | k + 7, hq => simp [pm_T] at hq
theorem w_mk {l : Launch} {y : MethodName} {cc : ByteArray} {nL : Nat} {rt : Option FieldType} {R : Room} {n ce sl : Nat} {h : HP} {p : Program} {e : Env} {s : State} {m : MethodId} {args : Array Value} {below : List Frame} {meth : Method} {c : Code} {D : va_G} {dA : Nat → ClassId} {ad : Nat → Nat} {A : Nat → Prop} {H : Heap} {locs : List Loc} {lsA : Array Slot} {Qf : State → Prop} {pc idx idx2 ci N fr lo mc ms nz : Nat} {z : MethodName} {cz : ByteArray} {fs : List PV} {Qz : Option PV → Nat → HP → Prop}
    (C : Cx y cc nL rt p s m args meth c) (hw : NW y.cls idx ci fs N) (d1 : decode cc pc = .ok (.new idx, 3)) (d2 : decode cc (pc + 3) = .ok (.dup, 1)) (d3 : decode cc (pc + 3 + 1) = .ok (.invokespecial idx2, 3)) (hcon : Con l z cz nz none fr lo mc ms [vR n] (n + 1) (va_up h n (kO ci fs)) Qz) (hm : MI y.cls idx2 z cz nz none 0) (hR : fr + 1 ≤ R.frames ∧ 8 + (nz + 11) + lo ≤ R.locals) (hcs1 : ce + 1 ≤ R.cells ∧ sl + N ≤ R.slots) (hcs : ce + 1 + mc ≤ R.cells ∧ sl + N + ms ≤ R.slots) (hh : okh n h) (hQ : ∀ r n' h', Qz r n' h' → r = none) (hK : pm_K D dA s) (hP : va_P D vwCl (pm_w dA ad n h) H) (hD : va_D A (pm_w dA ad n h)) (hS : va_S A s.heap H locs) (hA : ∀ q, s.heap.size ≤ q → A q) (hsz : lsA.size = nL)
    (kk : ∀ n' h' ad' H1 locs1, Qz none n' h' → n + 1 ≤ n' → (∀ k, k < n → ad' k = ad k) → va_P D vwCl (pm_w dA ad' n' h') H1 → va_D A (pm_w dA ad' n' h') → va_S A s.heap H1 locs1 → W p l e R s m args below meth c H1 locs1 (ce + 1 + mc) (sl + N + ms) Qf (F0 m (pc + 3 + 1 + 3) lsA [.ref (ad' n)])) : W p l e R s m args below meth c H locs ce sl Qf (F0 m pc lsA []) := by
  obtain ⟨CC, T, tys, hc, hin, hty, hlk, hinst, hini, hfs, hno⟩ := hw
  refine va_new C.1 C.2.1 C.2.2.2.2.2.1 hin tys hty C.2.2.2.2.1 (C.2.2.2.2.2.1 _ hlk) (C.2.2.2.2.2.1 _ hinst) (C.2.2.2.2.2.1 _ hini) hK.1 hP hD hS hA hc (fs := fs.map (pm_v ad)) (hfs ad) hcs1.1 hcs1.2 d1 (fun q H1 hP1 hD1 hS1 => ?_)
  have ha : ∀ k, k < n → ad k = va_up ad n q k := fun k hk => (va_up_ne _ _ (by omega)).symm
  have hfo : okc n (kO ci fs) := fun v hv r e => absurd e (hno v hv r)
  have ew := pm_w_push (dA := dA) (ad := ad) (n := n) (h := h) q (kO ci fs) (fun k hk => (pm_c_eq (hh k hk) ha).symm) (pm_c_eq hfo ha).symm
  rw [show (q, (Sum.inr (ci, fs.map (pm_v ad)) : va_E)) = (q, pm_c dA ad (kO ci fs)) from rfl, ew] at hP1 hD1
  have eq : va_up ad n q n = q := va_up_self _ _ _
  refine lv_dup C.1 C.2.1 d2 rfl ?_
  obtain ⟨hmb, hinm, hnm, -⟩ := hm
  refine pm_call (n := n + 1) (h := va_up h n (kO ci fs)) (ad := va_up ad n q) (va_runI (b := va_up ad n q n) (As := []) (rest := [.ref q]) ⟨C.1, C.2.1, C.2.2.2.1, C.2.2.2.2.1, C.2.2.2.2.2.1⟩ (hcon D dA (va_up ad n q) H1.size) ⟨mb_call C.2.2.2.2.2.1 hmb hR, hnm, C.2.2.2.2.2.1 _ hinm⟩ ⟨pm_blind, fun U hU hW => ⟨rfl, by rw [hU], by rw [hU]; exact hP1, pm_K.moved hW.alike hK, hD1.weaken (fun _ _ _ _ => trivial)⟩⟩ rfl rfl hsz (by rw [eq]; rfl) (lv_room (Nat.le_of_ble_eq_true rfl)) d3 hcs) hP1 hD1 hS1 hA ?_
  intro r n' h' ad' H2 locs2 hq hnn ha2 hb hP2 hD2 hS2
  have er := hQ _ _ _ hq
  subst er
  have e2 : ad' n = q := (ha2 n (by omega)).trans eq
  have := kk n' h' ad' H2 locs2 hq hnn (fun k hk => (ha2 k (by omega)).trans (ha k hk).symm) hP2 hD2 hS2
  rw [e2] at this
  exact this
theorem okHM {h : HP} (hh : okh 54 h) (f : Nat → Int) : okh 63 (HM h f) := by
  intro k hk
  unfold HM
  split
  · exact (hh k (by omega)).up (by omega)
  · split
    · exact okO ⟨okv_I _, okv_R (by omega), okv_R (by omega), okv_R (by omega), okv_I _, okv_R (by omega), okv_L _, okv_L _, okv_L _, okv_L _, okv_L _, okv_R (by omega), okv_R (by omega), okv_R (by omega), okv_R (by omega), okv_R (by omega), okv_L _, okv_L _, trivial⟩
    · repeat' split
      all_goals trivial
theorem whole_start {p : Program} {e : Env} {s : State} {m : MethodId} {below : List Frame} {meth : Method} {c : Code} (l : Launch) {b L : Nat} {xs : Nat → Int32} (hL : L ≤ 3584) (C0 : lw_At p s m meth c b L xs) : W p l e room_1 s m #[Value.ref b] below meth c s.heap [] 0 0 (lw_Z below #[Value.ref b] s) (entryFrame m ([Value.ref b] : List Value).toArray 4) := by
  obtain ⟨hx, hb, hr, hml, hown, hts, hX, hbl, hlocks, hgv⟩ := id C0
  have htb : ∀ w ∈ tbw, w.before #[Value.ref b] s = true := fun w hw => hts w (List.mem_filter.mp hw).1
  have C : Cx ⟨RL, meth.name, "([I)Z"⟩ cL_law 4 ret p s m #[Value.ref b] meth c := ⟨hx, hb, hr, hml, hown, htb, hlocks, rfl⟩
  obtain ⟨D, dA, hK⟩ := pm_K0 hts
  have hA : ∀ q : Nat, s.heap.size ≤ q → (fun q : Nat => s.heap.size ≤ q) q := fun _ h => h
  have hbA : ¬ (fun q : Nat => s.heap.size ≤ q) b := Nat.not_le.mpr hbl
  have hl := lv_entry ([.ref b]) (n := 4) (Nat.le_of_ble_eq_true rfl)
  rw [lg_entry_eq]
  generalize (lg_sl ([.ref b]) ++ List.replicate (4 - (lg_sl ([.ref b])).length) Slot.unset).toArray = ls at hl ⊢
  have hl : lv_has ls 4 [(0, .ref b)] := hl
  refine w_mk (n := 0) (h := fun _ => kI 0 (fun _ => 0)) (ad := fun _ => 0) (dA := dA) (D := D) (A := fun q : Nat => s.heap.size ≤ q) C nL_7 dL_law_0 dL_law_3 dL_law_4 (i_X5 l (va_up_self _ _ _)) mL_9 (by decide) (by decide) (by decide) (fun k hk => by omega) (fun r n' h' q => q.1) hK (fun k q h => by simp [pm_w] at h) ⟨fun i j p q h => by simp [pm_w] at h, fun k q h => by simp [pm_w] at h⟩ va_S.rf hA hl.1 ?_
  rintro n' h' ad1 H1 locs1 ⟨-, rfl, rfl, ok1⟩ - - hP1 hD1 hS1
  refine lv_astore_n (lv' := [(1, .ref (ad1 0)), (0, .ref b)]) hx hb dL_law_7 rfl hl (by decide) rfl (fun ls1 hl1 => ?_)
  refine w_mk (n := 53) (h := hp MZ) (ad := ad1) C nL_10 dL_law_8 dL_law_11 dL_law_12 (i_X6 l (okh_push ok1 (okO ⟨okv_I _, okv_N, okv_N, okv_N, okv_I _, okv_N, okv_L _, okv_L _, okv_L _, okv_L _, okv_L _, okv_N, okv_N, okv_N, okv_N, okv_N, okv_L _, okv_L _, trivial⟩)) (va_up_self _ _ _)) mL_12 (by decide) (by decide) (by decide) ok1 (fun r n' h' q => q.1) hK hP1 hD1 hS1 hA hl1.1 ?_
  rintro n' h' ad2 H2 locs2 ⟨-, rfl, rfl⟩ - ha2 hP2 hD2 hS2
  refine lv_astore_n (lv' := [(2, .ref (ad2 53)), (1, .ref (ad1 0)), (0, .ref b)]) hx hb dL_law_15 rfl hl1 (by decide) rfl (fun ls2 hl2 => ?_)
  refine lv_iconst (v := 0) hx hb dL_law_16 (by decide) ?_
  refine lv_istore_n (lv' := [(3, .int 0), (2, .ref (ad2 53)), (1, .ref (ad1 0)), (0, .ref b)]) hx hb dL_law_17 rfl hl2 (by decide) rfl (fun ls3 hl3 => ?_)
  have hO := okHM (okh_push ok1 (c := kO 6 dF6) (okO ⟨okv_I _, okv_N, okv_N, okv_N, okv_I _, okv_N, okv_L _, okv_L _, okv_L _, okv_L _, okv_L _, okv_N, okv_N, okv_N, okv_N, okv_N, okv_L _, okv_L _, trivial⟩)) (g9 72)
  have hE : ∀ k, k < 63 → HM (va_up (hp MZ) 53 (kO 6 dF6)) (g9 72) k = hp MZ k := (allS (allS (allS (allS (allS (allS (allS (allS (allS (allS (allS (allS (allS (allS (allS (allS (allS (allS (allS (allS (allS (allS (allS (allS (allS (allS (allS (allS (allS (allS (allS (allS (allS (allS (allS (allS (allS (allS (allS (allS (allS (allS (allS (allS (allS (allS (allS (allS (allS (allS (allS (allS (allS (allS (allS (allS (allS (allS (allS (allS (allS (allS (allS all0 rfl) rfl) rfl) rfl) rfl) rfl) rfl) rfl) rfl) rfl) rfl) rfl) rfl) rfl) rfl) rfl) rfl) rfl) rfl) rfl) rfl) rfl) rfl) rfl) rfl) rfl) rfl) rfl) rfl) rfl) rfl) rfl) rfl) rfl) rfl) rfl) rfl) rfl) rfl) rfl) rfl) rfl) rfl) rfl) rfl) rfl) rfl) rfl) rfl) rfl) rfl) rfl) rfl) rfl) rfl) rfl) rfl) rfl) rfl) rfl) rfl) rfl) rfl)
  have hO2 := okh_eq hO hE
  have ew : pm_w dA ad2 63 (HM (va_up (hp MZ) 53 (kO 6 dF6)) (g9 72)) = pm_w dA (va_up ad2 63 b) 63 (hp MZ) := by
    rw [pm_w_congr hE]
    exact pm_w_adcongr (fun k hk => (va_up_ne _ _ (by omega)).symm) (fun k hk => pm_c_eq (hO2 k hk) (fun j hj => (va_up_ne _ _ (by omega)).symm))
  rw [ew] at hP2 hD2
  have e0 : ad2 0 = ad1 0 := ha2 0 (by omega)
  have hlv : lvs (va_up ad2 63 b) ls3 4 [some (vR 63), some (vR 0), some (vR 53), some (vI ((0 : Nat) : Int))] := by
    refine ⟨hl3.1, hl3.2.1, fun i v hi => ?_⟩
    match i, hi with
    | 0, hi => cases hi; rw [hl3.2.2 (0, .ref b) (by simp)]; show some (Slot.val (.ref b)) = some (Slot.val (.ref (va_up ad2 63 b 63))); rw [va_up_self]
    | 1, hi => cases hi; rw [hl3.2.2 (1, .ref (ad1 0)) (by simp)]; show some (Slot.val (.ref (ad1 0))) = some (Slot.val (.ref (va_up ad2 63 b 0))); rw [va_up_ne _ _ (by omega), e0]
    | 2, hi => cases hi; rw [hl3.2.2 (2, .ref (ad2 53)) (by simp)]; show some (Slot.val (.ref (ad2 53))) = some (Slot.val (.ref (va_up ad2 63 b 53))); rw [va_up_ne _ _ (by omega)]
    | 3, hi => cases hi; rw [hl3.2.2 (3, .int 0) (by simp)]; rfl
    | i + 4, hi => cases hi
  have K := law_loop l (nm := meth.name) (b := b) (xs := xs) hL (L + 1) 0 MZ (by omega) (by omega) Inv.start p e s m #[Value.ref b] below meth c C D dA (va_up ad2 63 b) (va_up ad2 63 b) (fun q : Nat => s.heap.size ≤ q) H2 locs2 ls3 ⟨hX, hbl, hbA⟩ (Nat.le_refl _) (fun _ _ => rfl) (fun _ => rfl) hK hP2 hD2 hS2 hA hlv
  intro T hT X
  obtain ⟨t, a1, b1⟩ := K T hT X
  exact ⟨t, a1, b1 (va_up_self _ _ _) (fun q h => h) rfl⟩
