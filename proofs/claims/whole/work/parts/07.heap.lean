
/-! heap rows, contracts, calls -/
def FL (own : String) (idx ci k : Nat) (ty : FieldType) (fin : Bool) : Prop := ∃ (C : String) (T : u_T) (N : Nat) (tys : Nat → FieldType), vwCl[ci]? = some (C, T, N) ∧ (∀ w ∈ u_ws C T N, w ∈ tbw) ∧ k < N ∧ Cond.fieldLink own idx (T k).1 (T k).2.1 (T k).2.2.1 ∈ tbw ∧ (T k).2.2.2 = fin ∧ (∀ j, j < N → parseFieldDescriptor (T j).2.2.1 = some (tys j)) ∧ (∀ a, a < N → ∀ b, b < N → a ≠ b → (T a).2.1 ≠ (T b).2.1) ∧ parseFieldDescriptor (T k).2.2.1 = some ty ∧ (fin = true → (T k).1 = own)
def FG (own : String) (idx ci k : Nat) : Prop := ∃ (C : String) (T : u_T) (N : Nat), vwCl[ci]? = some (C, T, N) ∧ (∀ w ∈ u_ws C T N, w ∈ tbw) ∧ k < N ∧ Cond.fieldLink own idx (T k).1 (T k).2.1 (T k).2.2.1 ∈ tbw
theorem FL.g {own : String} {idx ci k : Nat} {ty : FieldType} {fin : Bool} (h : FL own idx ci k ty fin) : FG own idx ci k := by
  obtain ⟨C, T, N, tys, hc, hin, hk, hlk, -⟩ := h
  exact ⟨C, T, N, hc, hin, hk, hlk⟩
theorem tb_at {w : Cond} (i : Nat) (h : tables_1[i]? = some w) (hg : goodWord w = true) : w ∈ tbw := tb_in (List.mem_append_right _ (List.mem_of_getElem? h)) hg
theorem tb_sel {w : Cond} (i : Nat) (h : (k2_sels lw_privs)[i]? = some w) (hg : goodWord w = true) : w ∈ tbw := tb_in (List.mem_append_left _ (List.mem_of_getElem? h)) hg
def okT (ty : FieldType) (v : PV) : Prop := ∀ ad : Nat → Nat, narrow ty (pm_v ad v) = pm_v ad v ∧ fits ty (pm_v ad v) = true
theorem okT_I (z : Int) : okT .int (vI z) := fun _ => ⟨rfl, rfl⟩
theorem okT_L (z : Int) : okT .long (vL z) := fun _ => ⟨rfl, rfl⟩
theorem okT_Z {z : Int} (hz : z = 0 ∨ z = 1) : okT .boolean (vI z) := fun _ => by
  rcases hz with rfl | rfl
  · exact ⟨show narrow .boolean (.int (Int32.ofInt 0)) = .int (Int32.ofInt 0) by decide +kernel, show fits .boolean (.int (Int32.ofInt 0)) = true by decide +kernel⟩
  · exact ⟨show narrow .boolean (.int (Int32.ofInt 1)) = .int (Int32.ofInt 1) by decide +kernel, show fits .boolean (.int (Int32.ofInt 1)) = true by decide +kernel⟩
theorem okT_O (C : String) (r : Nat) : okT (.object C) (vR r) := fun _ => ⟨rfl, rfl⟩
theorem okT_A (t : FieldType) (r : Nat) : okT (.array t) (vR r) := fun _ => ⟨rfl, rfl⟩
def okv (n : Nat) (v : PV) : Prop := ∀ r, v = vR r → r < n
def okc (n : Nat) (c : PK) : Prop := match c with
  | Sum.inl _ => True
  | Sum.inr (Sum.inl (_, _, f)) => ∀ j r, f j = some r → r < n
  | Sum.inr (Sum.inr (_, fs)) => ∀ v ∈ fs, okv n v
theorem okv_I {n : Nat} (z : Int) : okv n (vI z) := fun _ h => by cases h
theorem okv_L {n : Nat} (z : Int) : okv n (vL z) := fun _ h => by cases h
theorem okv_R {n r : Nat} (h : r < n) : okv n (vR r) := fun _ e => by cases e; exact h
theorem okv_N {n : Nat} : okv n (vQ none) := fun _ h => by cases h
theorem okv.up {n m : Nat} {v : PV} (h : okv n v) (hm : n ≤ m) : okv m v := fun r e => Nat.lt_of_lt_of_le (h r e) hm
theorem okc.up {n m : Nat} {c : PK} (h : okc n c) (hm : n ≤ m) : okc m c := by
  rcases c with a | a | a
  · trivial
  · exact fun j r e => Nat.lt_of_lt_of_le (h j r e) hm
  · exact fun v hv => (h v hv).up hm
theorem pm_v_eq {n : Nat} {v : PV} {ad ad' : Nat → Nat} (h : okv n v) (ha : ∀ k, k < n → ad k = ad' k) : pm_v ad v = pm_v ad' v := by
  rcases v with z | z | r
  · rfl
  · rfl
  · cases r with
    | none => rfl
    | some r => show va_rf (some (ad r)) = va_rf (some (ad' r)); rw [ha r (h r rfl)]
theorem pm_c_eq {n : Nat} {c : PK} {dA : Nat → ClassId} {ad ad' : Nat → Nat} (h : okc n c) (ha : ∀ k, k < n → ad k = ad' k) : pm_c dA ad c = pm_c dA ad' c := by
  rcases c with ⟨k, m, f⟩ | ⟨k, m, f⟩ | ⟨c, fs⟩
  · rfl
  · have e : (fun j => (f j).map ad) = (fun j => (f j).map ad') := by
      funext j
      cases hj : f j with
      | none => rfl
      | some r => show some (ad r) = some (ad' r); rw [ha r (h j r hj)]
    show Sum.inl (_, _, _) = Sum.inl (_, _, _)
    rw [e]
  · show Sum.inr (_, _) = Sum.inr (_, _)
    rw [List.map_congr_left (fun v hv => pm_v_eq (h v hv) ha)]
theorem lvs_eq {n : Nat} {ad ad' : Nat → Nat} {A : Array Slot} {nL : Nat} {ls : List (Option PV)} (h : ∀ i v, lk ls i = some v → okv n v) (ha : ∀ k, k < n → ad k = ad' k) (hl : lvs ad A nL ls) : lvs ad' A nL ls :=
  ⟨hl.1, hl.2.1, fun i v e => by rw [hl.2.2 i v e, pm_v_eq (h i v e) ha]⟩
def okl (n : Nat) : List (Option PV) → Prop
  | [] => True
  | none :: r => okl n r
  | some v :: r => okv n v ∧ okl n r
theorem okl_at {n : Nat} : ∀ {ls : List (Option PV)}, okl n ls → ∀ i v, lk ls i = some v → okv n v
  | [], _, i, v, h => by simp [lk] at h
  | none :: r, hr, 0, v, h => by simp [lk] at h
  | none :: r, hr, i + 1, v, h => okl_at (ls := r) hr i v h
  | some w :: r, hr, 0, v, h => by cases h; exact hr.1
  | some w :: r, hr, i + 1, v, h => okl_at (ls := r) hr.2 i v h
def oks (n : Nat) : List PV → Prop
  | [] => True
  | v :: r => okv n v ∧ oks n r
theorem oks_map {n : Nat} {ad ad' : Nat → Nat} (ha : ∀ k, k < n → ad k = ad' k) : ∀ {st : List PV}, oks n st → st.map (pm_v ad) = st.map (pm_v ad')
  | [], _ => rfl
  | v :: r, h => by rw [List.map_cons, List.map_cons, pm_v_eq h.1 ha, oks_map ha h.2]
def okh (n : Nat) (h : HP) : Prop := ∀ k, k < n → okc n (h k)
theorem pm_idx {z : Int} {m : Nat} (hz : 0 ≤ z ∧ z < (m : Int)) (hm : m < 2147483648) : vp_in (Int32.ofInt z) m ∧ (Int32.ofInt z).toNatClampNeg = z.toNat := by
  have h1 : (Int32.ofInt z).toInt = z := pm_r32 (by omega)
  refine ⟨vp_in_iff.mpr (by rw [h1]; exact hz), ?_⟩
  exact Int32.toNatClampNeg_ofInt_of_le (by omega) (by omega)
theorem pm_upd32 (f : Nat → Int) (k : Nat) (x : Int) : upd (fun j => Int32.ofInt (f j)) k (Int32.ofInt x) = fun j => Int32.ofInt (va_up f k x j) := by
  funext j
  by_cases h : j = k
  · subst h; rw [pk_us, va_up_self]
  · rw [pk_un h, va_up_ne _ _ h]
theorem pm_upd64 (f : Nat → Int) (k : Nat) (x : Int) : vp_updL (fun j => Int64.ofInt (f j)) k (Int64.ofInt x) = fun j => Int64.ofInt (va_up f k x j) := by
  funext j
  by_cases h : j = k
  · subst h; rw [pk_uLs, va_up_self]
  · rw [pk_uLn h, va_up_ne _ _ h]
section EH
variable {l : Launch} {y : MethodName} {cc : ByteArray} {nL : Nat} {rt : Option FieldType} {R : Room} {E : EE} {Z : ZZ} {n0 pc : Nat} {ls : List (Option PV)} {st : List PV} {n ce sl : Nat} {h : HP}
theorem ev_get {idx ci k : Nat} (hf : FG y.cls idx ci k) (hd : decode cc pc = .ok (.getfield idx, 3)) {r : Nat} {fs : List PV} {v : PV} (hr : r < n) (hh : h r = kO ci fs) (hv : fs[k]? = some v) (kk : Ev l y cc nL rt R E Z n0 (pc + 3) ls (v :: st) n ce sl h) : Ev l y cc nL rt R E Z n0 pc ls (vR r :: st) n ce sl h := by
  intro p e s m args below meth c C D dA ad0 ad A H locs lsA a0 a1 a2 a3 hK hP hD hS hA hl
  obtain ⟨CC, T, N, hc, hin, hk, hlk⟩ := hf
  exact va_get C.1 C.2.1 C.2.2.2.2.2.1 hin C.2.2.2.2.1 hK.1 hP r (fs := fs.map (pm_v ad)) (by rw [pm_w_at hr, hh]; rfl) hc k hk (C.2.2.2.2.2.1 _ hlk) (fun _ h9 => h9) (v := pm_v ad v) (by rw [List.getElem?_map, hv]; rfl) hd (kk p e s m args below meth c C D dA ad0 ad A H locs lsA a0 a1 a2 a3 hK hP hD hS hA hl)
theorem ev_put {idx ci k : Nat} {ty : FieldType} (hf : FL y.cls idx ci k ty false) (hd : decode cc pc = .ok (.putfield idx, 3)) {r : Nat} {fs : List PV} {v : PV} (hr : r < n) (hh : h r = kO ci fs) (hv : okT ty v) (hlen : k < fs.length) (kk : Ev l y cc nL rt R E Z n0 (pc + 3) ls st n ce sl (va_up h r (kO ci (fs.set k v)))) : Ev l y cc nL rt R E Z n0 pc ls (v :: vR r :: st) n ce sl h := by
  intro p e s m args below meth c C D dA ad0 ad A H locs lsA a0 a1 a2 a3 hK hP hD hS hA hl
  obtain ⟨CC, T, N, tys, hc, hin, hk, hlk, hfin, hty, hnm, hd2, hdc⟩ := hf
  have hset : (fs.map (pm_v ad)).set k (pm_v ad v) = (fs.set k v).map (pm_v ad) := by rw [List.map_set]
  refine va_put C.1 C.2.1 C.2.2.2.2.2.1 hin tys hty hnm C.2.2.2.2.1 hK.1 hP hD hS r (fs := fs.map (pm_v ad)) (by rw [pm_w_at hr, hh]; rfl) hc k hk (C.2.2.2.2.2.1 _ hlk) (fun _ h9 => h9) hfin hd2 (hv ad).1 (hv ad).2 (by simpa using hlen) hd (fun H1 locs1 hP1 hD1 hS1 => ?_)
  rw [hset] at hP1 hD1
  have e1 := pm_w_set (dA := dA) (ad := ad) (h := h) hr (kO ci (fs.set k v))
  rw [show (ad r, (Sum.inr (ci, (fs.set k v).map (pm_v ad)) : va_E)) = (ad r, pm_c dA ad (kO ci (fs.set k v))) from rfl, e1] at hP1 hD1
  exact kk p e s m args below meth c C D dA ad0 ad A H1 locs1 lsA a0 a1 a2 a3 hK hP1 hD1 hS1 hA hl
theorem ev_putF {idx ci k : Nat} {ty : FieldType} (hf : FL y.cls idx ci k ty true) (hy : y.name = "<init>") (hd : decode cc pc = .ok (.putfield idx, 3)) {r : Nat} {fs : List PV} {v : PV} (hr : r < n) (hh : h r = kO ci fs) (hv : okT ty v) (hlen : k < fs.length) (kk : Ev l y cc nL rt R E Z n0 (pc + 3) ls st n ce sl (va_up h r (kO ci (fs.set k v)))) : Ev l y cc nL rt R E Z n0 pc ls (v :: vR r :: st) n ce sl h := by
  intro p e s m args below meth c C D dA ad0 ad A H locs lsA a0 a1 a2 a3 hK hP hD hS hA hl
  obtain ⟨CC, T, N, tys, hc, hin, hk, hlk, hfin, hty, hnm, hd2, hdc⟩ := hf
  have hset : (fs.map (pm_v ad)).set k (pm_v ad v) = (fs.set k v).map (pm_v ad) := by rw [List.map_set]
  refine va_putF C.1 C.2.1 C.2.2.2.2.2.1 hin tys hty hnm C.2.2.2.2.1 hK.1 hP hD hS r (fs := fs.map (pm_v ad)) (by rw [pm_w_at hr, hh]; rfl) hc k hk (C.2.2.2.2.2.1 _ hlk) (fun _ h9 => h9) hfin (C.2.2.2.2.2.2.2.trans hy) (hdc rfl) hd2 (hv ad).1 (hv ad).2 (by simpa using hlen) hd (fun H1 locs1 hP1 hD1 hS1 => ?_)
  rw [hset] at hP1 hD1
  have e1 := pm_w_set (dA := dA) (ad := ad) (h := h) hr (kO ci (fs.set k v))
  rw [show (ad r, (Sum.inr (ci, (fs.set k v).map (pm_v ad)) : va_E)) = (ad r, pm_c dA ad (kO ci (fs.set k v))) from rfl, e1] at hP1 hD1
  exact kk p e s m args below meth c C D dA ad0 ad A H1 locs1 lsA a0 a1 a2 a3 hK hP1 hD1 hS1 hA hl
theorem ev_iald (hd : decode cc pc = .ok (.iaload, 1)) {r m : Nat} {f : Nat → Int} {z : Int} (hr : r < n) (hh : h r = kI m f) (hz : 0 ≤ z ∧ z < (m : Int)) (kk : Ev l y cc nL rt R E Z n0 (pc + 1) ls (vI (f z.toNat) :: st) n ce sl h) (hm : m < 2147483648 := by decide) : Ev l y cc nL rt R E Z n0 pc ls (vI z :: vR r :: st) n ce sl h := by
  intro p e s m args below meth c C D dA ad0 ad A H locs lsA a0 a1 a2 a3 hK hP hD hS hA hl
  obtain ⟨i1, i2⟩ := pm_idx hz hm
  refine va_iald C.1 C.2.1 hK.1 hP r 0 (f := fun j => Int32.ofInt (f j)) (by rw [pm_w_at hr, hh]; rfl) rfl i1 hd ?_
  rw [i2]
  exact kk p e s m args below meth c C D dA ad0 ad A H locs lsA a0 a1 a2 a3 hK hP hD hS hA hl
theorem ev_zald (hd : decode cc pc = .ok (.baload, 1)) {r m : Nat} {f : Nat → Int} {z : Int} (hr : r < n) (hh : h r = kZ m f) (hz : 0 ≤ z ∧ z < (m : Int)) (kk : Ev l y cc nL rt R E Z n0 (pc + 1) ls (vI (f z.toNat) :: st) n ce sl h) (hm : m < 2147483648 := by decide) : Ev l y cc nL rt R E Z n0 pc ls (vI z :: vR r :: st) n ce sl h := by
  intro p e s m args below meth c C D dA ad0 ad A H locs lsA a0 a1 a2 a3 hK hP hD hS hA hl
  obtain ⟨i1, i2⟩ := pm_idx hz hm
  refine va_zald C.1 C.2.1 hK.1 hP r 2 (f := fun j => Int32.ofInt (f j)) (by rw [pm_w_at hr, hh]; rfl) rfl i1 hd ?_
  rw [i2]
  exact kk p e s m args below meth c C D dA ad0 ad A H locs lsA a0 a1 a2 a3 hK hP hD hS hA hl
theorem ev_lald (hd : decode cc pc = .ok (.laload, 1)) {r m : Nat} {f : Nat → Int} {z : Int} (hr : r < n) (hh : h r = kJ m f) (hz : 0 ≤ z ∧ z < (m : Int)) (kk : Ev l y cc nL rt R E Z n0 (pc + 1) ls (vL (f z.toNat) :: st) n ce sl h) (hm : m < 2147483648 := by decide) : Ev l y cc nL rt R E Z n0 pc ls (vI z :: vR r :: st) n ce sl h := by
  intro p e s m args below meth c C D dA ad0 ad A H locs lsA a0 a1 a2 a3 hK hP hD hS hA hl
  obtain ⟨i1, i2⟩ := pm_idx hz hm
  refine va_lald C.1 C.2.1 hK.1 hP r 1 (f := fun j => Int64.ofInt (f j)) (by rw [pm_w_at hr, hh]; rfl) rfl i1 hd ?_
  rw [i2]
  exact kk p e s m args below meth c C D dA ad0 ad A H locs lsA a0 a1 a2 a3 hK hP hD hS hA hl
theorem ev_iast (hd : decode cc pc = .ok (.iastore, 1)) {r m : Nat} {f : Nat → Int} {z x : Int} (hr : r < n) (hh : h r = kI m f) (hz : 0 ≤ z ∧ z < (m : Int)) (kk : Ev l y cc nL rt R E Z n0 (pc + 1) ls st n ce sl (va_up h r (kI m (va_up f z.toNat x)))) (hm : m < 2147483648 := by decide) : Ev l y cc nL rt R E Z n0 pc ls (vI x :: vI z :: vR r :: st) n ce sl h := by
  intro p e s mi args below meth c C D dA ad0 ad A H locs lsA a0 a1 a2 a3 hK hP hD hS hA hl
  obtain ⟨i1, i2⟩ := pm_idx hz hm
  refine va_iast C.1 C.2.1 hK.1 hP hD hS r 0 (f := fun j => Int32.ofInt (f j)) (by rw [pm_w_at hr, hh]; rfl) rfl i1 hd (fun H1 locs1 hP1 hD1 hS1 => ?_)
  rw [i2, pm_upd32] at hP1 hD1
  have e1 := pm_w_set (dA := dA) (ad := ad) (h := h) hr (kI m (va_up f z.toNat x))
  erw [e1] at hP1 hD1
  exact kk p e s mi args below meth c C D dA ad0 ad A H1 locs1 lsA a0 a1 a2 a3 hK hP1 hD1 hS1 hA hl
theorem ev_last (hd : decode cc pc = .ok (.lastore, 1)) {r m : Nat} {f : Nat → Int} {z x : Int} (hr : r < n) (hh : h r = kJ m f) (hz : 0 ≤ z ∧ z < (m : Int)) (kk : Ev l y cc nL rt R E Z n0 (pc + 1) ls st n ce sl (va_up h r (kJ m (va_up f z.toNat x)))) (hm : m < 2147483648 := by decide) : Ev l y cc nL rt R E Z n0 pc ls (vL x :: vI z :: vR r :: st) n ce sl h := by
  intro p e s mi args below meth c C D dA ad0 ad A H locs lsA a0 a1 a2 a3 hK hP hD hS hA hl
  obtain ⟨i1, i2⟩ := pm_idx hz hm
  refine va_last C.1 C.2.1 hK.1 hP hD hS r 1 (f := fun j => Int64.ofInt (f j)) (by rw [pm_w_at hr, hh]; rfl) rfl i1 hd (fun H1 locs1 hP1 hD1 hS1 => ?_)
  rw [i2, pm_upd64] at hP1 hD1
  have e1 := pm_w_set (dA := dA) (ad := ad) (h := h) hr (kJ m (va_up f z.toNat x))
  erw [e1] at hP1 hD1
  exact kk p e s mi args below meth c C D dA ad0 ad A H1 locs1 lsA a0 a1 a2 a3 hK hP1 hD1 hS1 hA hl
theorem ev_zast (hd : decode cc pc = .ok (.bastore, 1)) {r m : Nat} {f : Nat → Int} {z x : Int} (hr : r < n) (hh : h r = kZ m f) (hz : 0 ≤ z ∧ z < (m : Int)) (hx : x = 0 ∨ x = 1) (kk : Ev l y cc nL rt R E Z n0 (pc + 1) ls st n ce sl (va_up h r (kZ m (va_up f z.toNat x)))) (hm : m < 2147483648 := by decide) : Ev l y cc nL rt R E Z n0 pc ls (vI x :: vI z :: vR r :: st) n ce sl h := by
  intro p e s mi args below meth c C D dA ad0 ad A H locs lsA a0 a1 a2 a3 hK hP hD hS hA hl
  obtain ⟨i1, i2⟩ := pm_idx hz hm
  refine va_zast C.1 C.2.1 hK.1 hP hD hS r 2 (f := fun j => Int32.ofInt (f j)) (by rw [pm_w_at hr, hh]; rfl) rfl i1 hd (fun H1 locs1 hP1 hD1 hS1 => ?_)
  have hnx : vp_nar .boolean (Int32.ofInt x) = Int32.ofInt x := by rcases hx with rfl | rfl <;> decide +kernel
  rw [i2, hnx, pm_upd32] at hP1 hD1
  have e1 := pm_w_set (dA := dA) (ad := ad) (h := h) hr (kZ m (va_up f z.toNat x))
  erw [e1] at hP1 hD1
  exact kk p e s mi args below meth c C D dA ad0 ad A H1 locs1 lsA a0 a1 a2 a3 hK hP1 hD1 hS1 hA hl
theorem ev_aald (hd : decode cc pc = .ok (.aaload, 1)) {r m j : Nat} {kd : Nat} {f : Nat → Option Nat} {z : Int} (hr : r < n) (hh : h r = kQ kd m f) (hz : 0 ≤ z ∧ z < (m : Int)) (hj : f z.toNat = some j) (kk : Ev l y cc nL rt R E Z n0 (pc + 1) ls (vR j :: st) n ce sl h) (hm : m < 2147483648 := by decide) (hkd : kd < 4 := by decide) : Ev l y cc nL rt R E Z n0 pc ls (vI z :: vR r :: st) n ce sl h := by
  intro p e s m' args below meth c C D dA ad0 ad A H locs lsA a0 a1 a2 a3 hK hP hD hS hA hl
  obtain ⟨i1, i2⟩ := pm_idx hz hm
  have hlt : (Int32.ofInt z).toNatClampNeg < m := by rw [i2]; omega
  have ht : ∃ ty : FieldType, (pm_T dA)[kd + 3]? = some (dA (kd + 3), ty) ∧ ty.isReference = true := by
    rcases (show kd = 0 ∨ kd = 1 ∨ kd = 2 ∨ kd = 3 by omega) with rfl | rfl | rfl | rfl
    · exact ⟨_, rfl, rfl⟩
    · exact ⟨_, rfl, rfl⟩
    · exact ⟨_, rfl, rfl⟩
    · exact ⟨_, rfl, rfl⟩
  obtain ⟨ty, t1, t2⟩ := ht
  have hw : (pm_w dA ad n h)[r]? = some (ad r, Sum.inl (dA (kd + 3), m, .inr (.inr (.inr (.inr (fun j => (f j).map ad)))))) := by rw [pm_w_at hr, hh]; rfl
  have hcell : H[ad r]? = some (vp_cell (dA (kd + 3)) (m, .inr (.inr (.inr (.inr (fun j => (f j).map ad)))))) := hP r _ hw
  refine W.aald (v := va_rf ((f (Int32.ofInt z).toNatClampNeg).map ad)) (ty := ty) C.1 C.2.1 hcell ((hK.1.2 _ _ t1).1 m (fun j => va_rf ((f j).map ad))) t2 (fun q => by cases q) (by show ¬ (Int32.ofInt z < 0 ∨ (arrV _ _ _).slots.size ≤ _); rw [arrV_size]; exact i1) (by show (arrV _ _ _).slots[_]? = _; rw [arrV_read _ _ hlt]) rfl rfl hd ?_
  rw [i2, hj]
  exact kk p e s m' args below meth c C D dA ad0 ad A H locs lsA a0 a1 a2 a3 hK hP hD hS hA hl
end EH
