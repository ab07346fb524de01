/-! making: objects, arrays, rows of arrays -/
theorem okh_push {n : Nat} {h : HP} {c : PK} (hh : okh n h) (hc : okc (n + 1) c) : okh (n + 1) (va_up h n c) := by
  intro k hk
  by_cases e : k = n
  · subst e; rw [va_up_self]; exact hc
  · rw [va_up_ne _ _ e]; exact (hh k (by omega)).up (by omega)
theorem okh_set {n r : Nat} {h : HP} {c : PK} (hh : okh n h) (hc : okc n c) : okh n (va_up h r c) := by
  intro k hk
  by_cases e : k = r
  · subst e; rw [va_up_self]; exact hc
  · rw [va_up_ne _ _ e]; exact hh k hk
section MK
variable {l : Launch} {y : MethodName} {cc : ByteArray} {nL : Nat} {rt : Option FieldType} {R : Room} {E : EE} {Z : ZZ} {n0 pc : Nat} {ls : List (Option PV)} {st : List PV} {n ce sl : Nat} {h : HP}
theorem ev_heq (h' : HP) (hh : ∀ k, k < n → h k = h' k) (kk : Ev l y cc nL rt R E Z n0 pc ls st n ce sl h') : Ev l y cc nL rt R E Z n0 pc ls st n ce sl h := by
  intro p e s m args below meth c C D dA ad0 ad A H locs lsA a0 a1 a2 a3 hK hP hD hS hA hl
  rw [pm_w_congr hh] at hP hD
  exact kk p e s m args below meth c C D dA ad0 ad A H locs lsA a0 a1 a2 a3 hK hP hD hS hA hl
theorem pm_alloc {p : Program} {e : Env} {s : State} {m : MethodId} {args : Array Value} {below : List Frame} {meth : Method} {c : Code} {D : va_G} {dA : Nat → ClassId} {ad0 ad : Nat → Nat} {A : Nat → Prop} {H1 : Heap} {locs : List Loc} {lsA : Array Slot} {c1 : PK} {q pc' ce' sl' : Nat}
    (kk : Ev l y cc nL rt R E Z n0 pc' ls (vR n :: st) (n + 1) ce' sl' (va_up h n c1)) (hh : okh n h) (hst : oks n st) (hls : okl n ls) (hfo : okc n c1) (C : Cx y cc nL rt p s m args meth c) (a0 : E s A) (a1 : n0 ≤ n) (a2 : ∀ k, k < n0 → ad k = ad0 k) (hK : pm_K D dA s) (hP1 : va_P D vwCl (pm_w dA ad n h ++ [(q, pm_c dA ad c1)]) H1) (hD1 : va_D A (pm_w dA ad n h ++ [(q, pm_c dA ad c1)])) (hS1 : va_S A s.heap H1 locs) (hA : ∀ q, s.heap.size ≤ q → A q) (hl : lvs ad lsA nL ls) :
    W p l e R s m args below meth c H1 locs ce' sl' (Z below args s D dA ad0 A) (F0 m pc' lsA (.ref q :: st.map (pm_v ad))) := by
  have ha : ∀ k, k < n → ad k = va_up ad n q k := fun k hk => (va_up_ne _ _ (by omega)).symm
  rw [pm_w_push q c1 (fun k hk => (pm_c_eq (hh k hk) ha).symm) (pm_c_eq hfo ha).symm] at hP1 hD1
  have := kk p e s m args below meth c C D dA ad0 (va_up ad n q) A H1 locs lsA a0 (by omega) (fun k hk => (ha k (by omega)).symm.trans (a2 k hk)) (fun e => by omega) hK hP1 hD1 hS1 hA (lvs_eq (okl_at hls) ha hl)
  rw [List.map_cons, ← oks_map ha hst, show pm_v (va_up ad n q) (vR n) = .ref q from by show va_rf (some (va_up ad n q n)) = _; rw [va_up_self]; rfl] at this
  exact this
/-- what 'new' asks of the tables -/
def NW (own : String) (idx ci : Nat) (fs : List PV) (N : Nat) : Prop := ∃ (C : String) (T : u_T) (tys : Nat → FieldType), vwCl[ci]? = some (C, T, N) ∧ (∀ w ∈ u_ws C T N, w ∈ tbw) ∧ (∀ k, k < N → parseFieldDescriptor (T k).2.2.1 = some (tys k)) ∧ Cond.classLink own idx C ∈ tbw ∧ Cond.instantiable C N ∈ tbw ∧ Cond.initialized C ∈ tbw ∧ (∀ ad : Nat → Nat, ∀ j, j < N → defaultValue (tys j) = vp_V (fs.map (pm_v ad)) j) ∧ ∀ v ∈ fs, ∀ r, v ≠ vR r
theorem ev_new {idx ci N : Nat} {fs : List PV} (hw : NW y.cls idx ci fs N) (hd : decode cc pc = .ok (.new idx, 3)) (hcs : ce + 1 ≤ R.cells ∧ sl + N ≤ R.slots) (hh : okh n h) (hst : oks n st) (hls : okl n ls)
    (kk : Ev l y cc nL rt R E Z n0 (pc + 3) ls (vR n :: st) (n + 1) (ce + 1) (sl + N) (va_up h n (kO ci fs))) : Ev l y cc nL rt R E Z n0 pc ls st n ce sl h := by
  intro p e s m args below meth c C D dA ad0 ad A H locs lsA a0 a1 a2 a3 hK hP hD hS hA hl
  obtain ⟨CC, T, tys, hc, hin, hty, hlk, hinst, hini, hfs, hno⟩ := hw
  refine va_new C.1 C.2.1 C.2.2.2.2.2.1 hin tys hty C.2.2.2.2.1 (C.2.2.2.2.2.1 _ hlk) (C.2.2.2.2.2.1 _ hinst) (C.2.2.2.2.2.1 _ hini) hK.1 hP hD hS hA hc (fs := fs.map (pm_v ad)) (hfs ad) hcs.1 hcs.2 hd (fun q H1 hP1 hD1 hS1 => ?_)
  exact pm_alloc (c1 := kO ci fs) kk hh hst hls (fun v hv r e => absurd e (hno v hv r)) C a0 a1 a2 hK hP1 hD1 hS1 hA hl
theorem n32 {z : Int} {N : Nat} (hz : z = (N : Int)) (hN : N < 1000) : ¬ Int32.ofInt z < 0 ∧ (Int32.ofInt z).toNatClampNeg = N := by
  subst hz
  refine ⟨fun q => ?_, ?_⟩
  · rw [Int32.lt_iff_toInt_lt, pm_r32 (by omega)] at q
    have : (0 : Int32).toInt = 0 := by decide
    omega
  · rw [Int32.toNatClampNeg_ofInt_of_le (by omega) (by omega)]; omega
theorem ev_newI (N' : Nat) {z : Int} (hz : z = (N' : Int)) (hN : N' < 1000) (harr : Cond.arrayClass .int ∈ tbw) (hd : decode cc pc = .ok (.newarray .int, 2)) (hcs : ce + 1 ≤ R.cells ∧ sl + N' ≤ R.slots) (hh : okh n h) (hst : oks n st) (hls : okl n ls)
    (kk : Ev l y cc nL rt R E Z n0 (pc + 2) ls (vR n :: st) (n + 1) (ce + 1) (sl + N') (va_up h n (kI N' (fun _ => 0)))) : Ev l y cc nL rt R E Z n0 pc ls (vI z :: st) n ce sl h := by
  intro p e s m args below meth c C D dA ad0 ad A H locs lsA a0 a1 a2 a3 hK hP hD hS hA hl
  obtain ⟨i1, i2⟩ := n32 hz hN
  refine va_newa C.1 C.2.1 (atype := .int) (C.2.2.2.2.2.1 _ harr) (ty := .int) rfl hK.1 hP hD hS hA (a0 := (N', .inl (fun _ => Int32.ofInt 0))) (fun cA => rfl) i1 i2 (by show N' * 4 ≤ _; omega) hcs.1 hcs.2 hd (fun q cA H1 hK1 hP1 hD1 hS1 => ?_)
  have ec : cA = dA 0 := Option.some.inj ((show s.vm.findClass ("[" ++ (FieldType.int).toString) = some cA from (hK1.2 7 (cA, .int) rfl).2).symm.trans (hK.1.2 0 (dA 0, .int) rfl).2)
  subst ec
  exact pm_alloc (c1 := kI N' (fun _ => 0)) kk hh hst hls trivial C a0 a1 a2 hK hP1 hD1 hS1 hA hl
theorem ev_newJ (N' : Nat) {z : Int} (hz : z = (N' : Int)) (hN : N' < 1000) (harr : Cond.arrayClass .long ∈ tbw) (hd : decode cc pc = .ok (.newarray .long, 2)) (hcs : ce + 1 ≤ R.cells ∧ sl + N' ≤ R.slots) (hh : okh n h) (hst : oks n st) (hls : okl n ls)
    (kk : Ev l y cc nL rt R E Z n0 (pc + 2) ls (vR n :: st) (n + 1) (ce + 1) (sl + N') (va_up h n (kJ N' (fun _ => 0)))) : Ev l y cc nL rt R E Z n0 pc ls (vI z :: st) n ce sl h := by
  intro p e s m args below meth c C D dA ad0 ad A H locs lsA a0 a1 a2 a3 hK hP hD hS hA hl
  obtain ⟨i1, i2⟩ := n32 hz hN
  refine va_newa C.1 C.2.1 (atype := .long) (C.2.2.2.2.2.1 _ harr) (ty := .long) rfl hK.1 hP hD hS hA (a0 := (N', .inr (.inl (fun _ => Int64.ofInt 0)))) (fun cA => rfl) i1 i2 (by show N' * 8 ≤ _; omega) hcs.1 hcs.2 hd (fun q cA H1 hK1 hP1 hD1 hS1 => ?_)
  have ec : cA = dA 1 := Option.some.inj ((show s.vm.findClass ("[" ++ (FieldType.long).toString) = some cA from (hK1.2 7 (cA, .long) rfl).2).symm.trans (hK.1.2 1 (dA 1, .long) rfl).2)
  subst ec
  exact pm_alloc (c1 := kJ N' (fun _ => 0)) kk hh hst hls trivial C a0 a1 a2 hK hP1 hD1 hS1 hA hl
theorem ev_newZ (N' : Nat) {z : Int} (hz : z = (N' : Int)) (hN : N' < 1000) (harr : Cond.arrayClass .boolean ∈ tbw) (hd : decode cc pc = .ok (.newarray .boolean, 2)) (hcs : ce + 1 ≤ R.cells ∧ sl + N' ≤ R.slots) (hh : okh n h) (hst : oks n st) (hls : okl n ls)
    (kk : Ev l y cc nL rt R E Z n0 (pc + 2) ls (vR n :: st) (n + 1) (ce + 1) (sl + N') (va_up h n (kZ N' (fun _ => 0)))) : Ev l y cc nL rt R E Z n0 pc ls (vI z :: st) n ce sl h := by
  intro p e s m args below meth c C D dA ad0 ad A H locs lsA a0 a1 a2 a3 hK hP hD hS hA hl
  obtain ⟨i1, i2⟩ := n32 hz hN
  refine va_newa C.1 C.2.1 (atype := .boolean) (C.2.2.2.2.2.1 _ harr) (ty := .boolean) rfl hK.1 hP hD hS hA (a0 := (N', .inl (fun _ => Int32.ofInt 0))) (fun cA => rfl) i1 i2 (by show N' * 1 ≤ _; omega) hcs.1 hcs.2 hd (fun q cA H1 hK1 hP1 hD1 hS1 => ?_)
  have ec : cA = dA 2 := Option.some.inj ((show s.vm.findClass ("[" ++ (FieldType.boolean).toString) = some cA from (hK1.2 7 (cA, .boolean) rfl).2).symm.trans (hK.1.2 2 (dA 2, .boolean) rfl).2)
  subst ec
  exact pm_alloc (c1 := kZ N' (fun _ => 0)) kk hh hst hls trivial C a0 a1 a2 hK hP1 hD1 hS1 hA hl
theorem ev_newQ0 (N' : Nat) {idx : Nat} {z : Int} (hz : z = (N' : Int)) (hN : N' < 1000) (hlk : Cond.classLink y.cls idx RX4 ∈ tbw) (hd : decode cc pc = .ok (.anewarray idx, 3)) (hcs : ce + 1 ≤ R.cells ∧ sl + N' ≤ R.slots) (hh : okh n h) (hst : oks n st) (hls : okl n ls)
    (kk : Ev l y cc nL rt R E Z n0 (pc + 3) ls (vR n :: st) (n + 1) (ce + 1) (sl + N') (va_up h n (kQ 0 N' (fun _ => none)))) : Ev l y cc nL rt R E Z n0 pc ls (vI z :: st) n ce sl h := by
  intro p e s m args below meth c C D dA ad0 ad A H locs lsA a0 a1 a2 a3 hK hP hD hS hA hl
  obtain ⟨i1, i2⟩ := n32 hz hN
  refine va_newq C.1 C.2.1 C.2.2.2.2.1 (C.2.2.2.2.2.1 _ hlk) hK.2.1 hK.1 hP hD hS hA i1 i2 (by omega) hcs.1 hcs.2 hd (fun q cA H1 hK1 hP1 hD1 hS1 => ?_)
  obtain ⟨-, -, -, -, -, e1⟩ := (hK1.2 7 (cA, .object RX4) rfl).2
  obtain ⟨-, -, -, -, -, e2⟩ := (hK.1.2 3 (dA 3, .object RX4) rfl).2
  have ec : cA = dA 3 := Option.some.inj (e1.symm.trans e2)
  subst ec
  exact pm_alloc (c1 := kQ 0 N' (fun _ => none)) kk hh hst hls (fun j r e => by cases e) C a0 a1 a2 hK hP1 hD1 hS1 hA hl
theorem ev_newQ1 (N' : Nat) {idx : Nat} {z : Int} (hz : z = (N' : Int)) (hN : N' < 1000) (hlk : Cond.classLink y.cls idx RX2 ∈ tbw) (hd : decode cc pc = .ok (.anewarray idx, 3)) (hcs : ce + 1 ≤ R.cells ∧ sl + N' ≤ R.slots) (hh : okh n h) (hst : oks n st) (hls : okl n ls)
    (kk : Ev l y cc nL rt R E Z n0 (pc + 3) ls (vR n :: st) (n + 1) (ce + 1) (sl + N') (va_up h n (kQ 1 N' (fun _ => none)))) : Ev l y cc nL rt R E Z n0 pc ls (vI z :: st) n ce sl h := by
  intro p e s m args below meth c C D dA ad0 ad A H locs lsA a0 a1 a2 a3 hK hP hD hS hA hl
  obtain ⟨i1, i2⟩ := n32 hz hN
  refine va_newq C.1 C.2.1 C.2.2.2.2.1 (C.2.2.2.2.2.1 _ hlk) hK.2.2.1 hK.1 hP hD hS hA i1 i2 (by omega) hcs.1 hcs.2 hd (fun q cA H1 hK1 hP1 hD1 hS1 => ?_)
  obtain ⟨-, -, -, -, -, e1⟩ := (hK1.2 7 (cA, .object RX2) rfl).2
  obtain ⟨-, -, -, -, -, e2⟩ := (hK.1.2 4 (dA 4, .object RX2) rfl).2
  have ec : cA = dA 4 := Option.some.inj (e1.symm.trans e2)
  subst ec
  exact pm_alloc (c1 := kQ 1 N' (fun _ => none)) kk hh hst hls (fun j r e => by cases e) C a0 a1 a2 hK hP1 hD1 hS1 hA hl
theorem map_up (ad : Nat → Nat) (f : Nat → Option Nat) (i v : Nat) : va_up (fun j => (f j).map ad) i (some (ad v)) = fun j => (va_up f i (some v) j).map ad := by
  funext j
  by_cases e : j = i
  · subst e; rw [va_up_self, va_up_self]; rfl
  · rw [va_up_ne _ _ e, va_up_ne _ _ e]
theorem ev_astq (k : Nat) {ci : Nat} {C : String} {T : u_T} {N : Nat} (hc : vwCl[ci]? = some (C, T, N)) (ht : ∀ dA : Nat → ClassId, (pm_T dA)[k + 3]? = some (dA (k + 3), .object C)) (hd : decode cc pc = .ok (.aastore, 1)) {a v m : Nat} {f : Nat → Option Nat} {vs : List PV} {z : Int} (ha : a < n) (hv : v < n) (hha : h a = kQ k m f) (hhv : h v = kO ci vs) (i : Nat) (hz : z = (i : Int)) (him : i < m) (hm : m < 1000)
    (kk : Ev l y cc nL rt R E Z n0 (pc + 1) ls st n ce sl (va_up h a (kQ k m (va_up f i (some v))))) : Ev l y cc nL rt R E Z n0 pc ls (vR v :: vI z :: vR a :: st) n ce sl h := by
  intro p e s m' args below meth c C' D dA ad0 ad A H locs lsA a0 a1 a2 a3 hK hP hD hS hA hl
  obtain ⟨i1, i2⟩ := pm_idx (z := z) (m := m) (by omega) (by omega)
  refine va_astq C'.1 C'.2.1 hK.1 hP hD hS a (k + 3) v ci (r := (C, T, N)) (f := fun j => (f j).map ad) (vs := vs.map (pm_v ad)) (by rw [pm_w_at ha, hha]; rfl) (ht dA) (by rw [pm_w_at hv, hhv]; rfl) hc i1 hd (fun H1 locs1 hP1 hD1 hS1 => ?_)
  rw [i2, show z.toNat = i by omega, map_up] at hP1 hD1
  have e1 := pm_w_set (dA := dA) (ad := ad) (h := h) ha (kQ k m (va_up f i (some v)))
  rw [show (ad a, (Sum.inl (dA (k + 3), m, Sum.inr (Sum.inr (Sum.inr (Sum.inr fun j => (va_up f i (some v) j).map ad)))) : va_E)) = (ad a, pm_c dA ad (kQ k m (va_up f i (some v)))) from rfl, e1] at hP1 hD1
  exact kk p e s m' args below meth c C' D dA ad0 ad A H1 locs1 lsA a0 a1 a2 a3 hK hP1 hD1 hS1 hA hl
theorem ev_objInit {idx r : Nat} (hlk : Cond.methodLink y.cls idx Lib.objectInit ∈ tbw) (hin : Cond.instanceMethod Lib.objectInit ∈ tbw) (hco : Cond.code Lib.objectInit ⟨#[0xb1]⟩ 1 none ∈ tbw) (hd : decode cc pc = .ok (.invokespecial idx, 3)) (hR : 1 ≤ R.frames ∧ 20 ≤ R.locals) (hcat : (st.map pcat).sum ≤ 8)
    (kk : Ev l y cc nL rt R E Z n0 (pc + 3) ls st n ce sl h) : Ev l y cc nL rt R E Z n0 pc ls (vR r :: st) n ce sl h := by
  intro p e s m args below meth c C D dA ad0 ad A H locs lsA a0 a1 a2 a3 hK hP hD hS hA hl
  refine W.objInit C.1 C.2.1 C.2.2.2.2.1 (C.2.2.2.2.2.1 _ hlk) (C.2.2.2.2.2.1 _ hin) (C.2.2.2.2.2.1 _ hco) rfl (by rw [C.2.2.2.1]; exact hl.1) rfl hd hR.1 ?_ ?_
  · have := lv_room (m := m) (pc := pc) (ls := lsA) (rest := (vR r :: st).map (pm_v ad)) (st := st.map (pm_v ad)) (by rw [pcat_map]; exact hcat)
    omega
  · exact kk p e s m args below meth c C D dA ad0 ad A H locs lsA a0 a1 a2 a3 hK hP hD hS hA hl
/-- rows of arrays: eight of eight -/
def h8 (h : HP) (n k : Nat) (c : PK) : HP := fun j => if j < n then h j else if j = n then kQ k 8 (fun i => if i < 8 then some (n + 1 + i) else none) else c
def ad8 (ad : Nat → Nat) (n q : Nat) (r : Nat → Nat) : Nat → Nat := fun j => if j < n then ad j else if j = n then q else r (j - n - 1)
theorem pm_w_8 {dA : Nat → ClassId} {ad : Nat → Nat} {h : HP} {k : Nat} {c : PK} {q : Nat} {r : Nat → Nat} {f : Nat → va_E} {cA cy : ClassId} {z : vp_A} (hh : okh n h) (e1 : cA = dA (k + 3)) (e2 : ∀ ad', pm_c dA ad' c = .inl (cy, z)) :
    (pm_w dA ad n h ++ [(q, .inl (cA, 8, .inr (.inr (.inr (.inr (fun i => if i < 8 then some (r i) else none))))))]) ++ va_pl ([] ++ (List.range 8).map r) (vr_up f ((List.range 8).map r) (.inl (cy, z))) = pm_w dA (ad8 ad n q r) (n + 9) (h8 h n k c) := by
  have ha : ∀ j, j < n → ad j = ad8 ad n q r j := fun j hj => by unfold ad8; rw [if_pos hj]
  rw [List.nil_append]
  unfold pm_w va_pl
  rw [List.range_add, List.map_append, List.append_assoc]
  congr 1
  · apply List.map_congr_left
    intro j hj
    have hj2 := List.mem_range.mp hj
    rw [← ha j hj2, show h8 h n k c j = h j from by unfold h8; rw [if_pos hj2], pm_c_eq (hh j hj2) ha]
  · rw [List.map_map, show List.range 9 = 0 :: (List.range 8).map Nat.succ from rfl, List.map_cons, List.singleton_append, List.map_map, List.map_cons, List.map_map]
    congr 1
    · show _ = (ad8 ad n q r (n + 0), pm_c dA (ad8 ad n q r) (h8 h n k c (n + 0)))
      rw [Nat.add_zero, show ad8 ad n q r n = q from by unfold ad8; rw [if_neg (by omega), if_pos rfl], show h8 h n k c n = kQ k 8 (fun i => if i < 8 then some (n + 1 + i) else none) from by unfold h8; rw [if_neg (by omega), if_pos rfl], e1]
      show _ = (q, Sum.inl (dA (k + 3), 8, Sum.inr (Sum.inr (Sum.inr (Sum.inr fun j => (if j < 8 then some (n + 1 + j) else none).map (ad8 ad n q r))))))
      have ef : (fun i => if i < 8 then some (r i) else none) = fun j => (if j < 8 then some (n + 1 + j) else none).map (ad8 ad n q r) := by
        funext j
        by_cases hj : j < 8
        · rw [if_pos hj, if_pos hj]
          show some (r j) = some (ad8 ad n q r (n + 1 + j))
          unfold ad8
          rw [if_neg (by omega), if_neg (by omega), show n + 1 + j - n - 1 = j by omega]
        · rw [if_neg hj, if_neg hj]; rfl
      rw [ef]
    · apply List.map_congr_left
      intro j hj
      have hj2 := List.mem_range.mp hj
      show (r j, vr_up f ((List.range 8).map r) (.inl (cy, z)) (r j)) = (ad8 ad n q r (n + (j + 1)), pm_c dA (ad8 ad n q r) (h8 h n k c (n + (j + 1))))
      rw [vr_up_in (List.mem_map.mpr ⟨j, hj, rfl⟩), show h8 h n k c (n + (j + 1)) = c from by unfold h8; rw [if_neg (by omega), if_neg (by omega)], e2]
      unfold ad8
      rw [if_neg (by omega), if_neg (by omega), show n + (j + 1) - n - 1 = j by omega]
theorem pm_alloc8 {p : Program} {e : Env} {s : State} {m : MethodId} {args : Array Value} {below : List Frame} {meth : Method} {c : Code} {D : va_G} {dA : Nat → ClassId} {ad0 ad : Nat → Nat} {A : Nat → Prop} {H1 : Heap} {locs : List Loc} {lsA : Array Slot} {c1 : PK} {q k pc' ce' sl' : Nat} {r : Nat → Nat}
    (kk : Ev l y cc nL rt R E Z n0 pc' ls (vR n :: st) (n + 9) ce' sl' (h8 h n k c1)) (hst : oks n st) (hls : okl n ls) (C : Cx y cc nL rt p s m args meth c) (a0 : E s A) (a1 : n0 ≤ n) (a2 : ∀ k, k < n0 → ad k = ad0 k) (hK : pm_K D dA s) (hP1 : va_P D vwCl (pm_w dA (ad8 ad n q r) (n + 9) (h8 h n k c1)) H1) (hD1 : va_D A (pm_w dA (ad8 ad n q r) (n + 9) (h8 h n k c1))) (hS1 : va_S A s.heap H1 locs) (hA : ∀ q, s.heap.size ≤ q → A q) (hl : lvs ad lsA nL ls) :
    W p l e R s m args below meth c H1 locs ce' sl' (Z below args s D dA ad0 A) (F0 m pc' lsA (.ref q :: st.map (pm_v ad))) := by
  have ha : ∀ j, j < n → ad j = ad8 ad n q r j := fun j hj => by unfold ad8; rw [if_pos hj]
  have := kk p e s m args below meth c C D dA ad0 (ad8 ad n q r) A H1 locs lsA a0 (by omega) (fun k hk => (ha k (by omega)).symm.trans (a2 k hk)) (fun e => by omega) hK hP1 hD1 hS1 hA (lvs_eq (okl_at hls) ha hl)
  rw [List.map_cons, ← oks_map ha hst, show pm_v (ad8 ad n q r) (vR n) = .ref q from by show va_rf (some (ad8 ad n q r n)) = _; unfold ad8; rw [if_neg (by omega), if_pos rfl]; rfl] at this
  exact this
theorem ev_mnaI {idx : Nat} (hlk : Cond.classLink y.cls idx ("[" ++ (FieldType.array .int).toString) ∈ tbw) (harr : Cond.arrayClass .int ∈ tbw) (hd : decode cc pc = .ok (.multianewarray idx 2, 4)) (hcs : ce + 9 ≤ R.cells ∧ sl + 72 ≤ R.slots) (hh : okh n h) (hst : oks n st) (hls : okl n ls)
    (kk : Ev l y cc nL rt R E Z n0 (pc + 4) ls (vR n :: st) (n + 9) (ce + 9) (sl + 72) (h8 h n 2 (kI 8 (fun _ => 0)))) : Ev l y cc nL rt R E Z n0 pc ls (vI 8 :: vI 8 :: st) n ce sl h := by
  intro p e s m args below meth c C D dA ad0 ad A H locs lsA a0 a1 a2 a3 hK hP hD hS hA hl
  obtain ⟨i1, i2⟩ := n32 (z := 8) (N := 8) rfl (by omega)
  have hcy : s.vm.findClass (FieldType.array .int).toString = some (dA 0) := (hK.1.2 0 (dA 0, .int) rfl).2
  have hz : ∀ c : ClassId, gx_row c 8 (defaultValue .int) = vp_cell c (8, .inl (fun _ => Int32.ofInt 0)) := fun c => by
    rfl
  refine gx_mna (X := pm_w dA ad n h) (L := []) (f := fun _ => .inl (dA 0, 8, .inl (fun _ => Int32.ofInt 0))) C.1 C.2.1 C.2.2.2.2.1 (C.2.2.2.2.2.1 _ hlk) hK.2.2.2.1 (C.2.2.2.2.2.1 _ harr) hcy hK.1 (by rw [show va_pl [] _ = [] from rfl, List.append_nil]; exact hP) (by rw [show va_pl [] _ = [] from rfl, List.append_nil]; exact hD) hS hA i1 i1 i2 i2 (by decide) (by decide) (by decide) rfl (by omega) (by omega) hz hd (fun q r cA H1 hr1 hr2 hK1 hP1 hD1 hS1 => ?_)
  have ec : cA = dA 5 := Option.some.inj ((show s.vm.findClass ("[" ++ (FieldType.array .int).toString) = some cA from (hK1.2 7 (cA, .array .int) rfl).2).symm.trans (hK.1.2 5 (dA 5, .array .int) rfl).2)
  rw [pm_w_8 (k := 2) (c := kI 8 (fun _ => 0)) (cy := dA 0) (z := (8, .inl (fun _ => Int32.ofInt 0))) hh ec (fun _ => rfl)] at hP1 hD1
  exact pm_alloc8 kk hst hls C a0 a1 a2 hK hP1 hD1 hS1 hA hl
theorem ev_mnaJ {idx : Nat} (hlk : Cond.classLink y.cls idx ("[" ++ (FieldType.array .long).toString) ∈ tbw) (harr : Cond.arrayClass .long ∈ tbw) (hd : decode cc pc = .ok (.multianewarray idx 2, 4)) (hcs : ce + 9 ≤ R.cells ∧ sl + 72 ≤ R.slots) (hh : okh n h) (hst : oks n st) (hls : okl n ls)
    (kk : Ev l y cc nL rt R E Z n0 (pc + 4) ls (vR n :: st) (n + 9) (ce + 9) (sl + 72) (h8 h n 3 (kJ 8 (fun _ => 0)))) : Ev l y cc nL rt R E Z n0 pc ls (vI 8 :: vI 8 :: st) n ce sl h := by
  intro p e s m args below meth c C D dA ad0 ad A H locs lsA a0 a1 a2 a3 hK hP hD hS hA hl
  obtain ⟨i1, i2⟩ := n32 (z := 8) (N := 8) rfl (by omega)
  have hcy : s.vm.findClass (FieldType.array .long).toString = some (dA 1) := (hK.1.2 1 (dA 1, .long) rfl).2
  have hz : ∀ c : ClassId, gx_row c 8 (defaultValue .long) = vp_cell c (8, .inr (.inl (fun _ => Int64.ofInt 0))) := fun c => by
    rfl
  refine gx_mna (X := pm_w dA ad n h) (L := []) (f := fun _ => .inl (dA 1, 8, .inr (.inl (fun _ => Int64.ofInt 0)))) C.1 C.2.1 C.2.2.2.2.1 (C.2.2.2.2.2.1 _ hlk) hK.2.2.2.2 (C.2.2.2.2.2.1 _ harr) hcy hK.1 (by rw [show va_pl [] _ = [] from rfl, List.append_nil]; exact hP) (by rw [show va_pl [] _ = [] from rfl, List.append_nil]; exact hD) hS hA i1 i1 i2 i2 (by decide) (by decide) (by decide) rfl (by omega) (by omega) hz hd (fun q r cA H1 hr1 hr2 hK1 hP1 hD1 hS1 => ?_)
  have ec : cA = dA 6 := Option.some.inj ((show s.vm.findClass ("[" ++ (FieldType.array .long).toString) = some cA from (hK1.2 7 (cA, .array .long) rfl).2).symm.trans (hK.1.2 6 (dA 6, .array .long) rfl).2)
  rw [pm_w_8 (k := 3) (c := kJ 8 (fun _ => 0)) (cy := dA 1) (z := (8, .inr (.inl (fun _ => Int64.ofInt 0)))) hh ec (fun _ => rfl)] at hP1 hD1
  exact pm_alloc8 kk hst hls C a0 a1 a2 hK hP1 hD1 hS1 hA hl
end MK
