
/-! THE PURE MACHINE: whole numbers stand for ints and longs (by their residues), cells bear numbers -/
abbrev vwCl : List vw_C := [(RX0, TX0, 12), (RX1, TX1, 4), (RX2, TX2, 2), (RX3, TX3, 2), (RX4, TX4, 8), (RX5, TX5, 7), (RX6, TX6, 18)]
abbrev PV : Type := Int ⊕ Int ⊕ Option Nat
abbrev PK : Type := (Nat × Nat × (Nat → Int)) ⊕ (Nat × Nat × (Nat → Option Nat)) ⊕ (Nat × List PV)
abbrev HP : Type := Nat → PK
abbrev vI (z : Int) : PV := Sum.inl z
abbrev vL (z : Int) : PV := Sum.inr (Sum.inl z)
abbrev vQ (r : Option Nat) : PV := Sum.inr (Sum.inr r)
abbrev vR (r : Nat) : PV := Sum.inr (Sum.inr (some r))
abbrev kI (n : Nat) (f : Nat → Int) : PK := Sum.inl (0, n, f)
abbrev kJ (n : Nat) (f : Nat → Int) : PK := Sum.inl (1, n, f)
abbrev kZ (n : Nat) (f : Nat → Int) : PK := Sum.inl (2, n, f)
abbrev kQ (k n : Nat) (f : Nat → Option Nat) : PK := Sum.inr (Sum.inl (k, n, f))
abbrev kO (c : Nat) (fs : List PV) : PK := Sum.inr (Sum.inr (c, fs))
def pm_v (ad : Nat → Nat) (v : PV) : Value := match v with
  | Sum.inl z => .int (Int32.ofInt z)
  | Sum.inr (Sum.inl z) => .long (Int64.ofInt z)
  | Sum.inr (Sum.inr r) => va_rf (r.map ad)
def pm_c (dA : Nat → ClassId) (ad : Nat → Nat) (c : PK) : va_E := match c with
  | Sum.inl (k, n, f) => .inl (dA k, n, if k = 1 then .inr (.inl (fun j => Int64.ofInt (f j))) else .inl (fun j => Int32.ofInt (f j)))
  | Sum.inr (Sum.inl (k, n, f)) => .inl (dA (k + 3), n, .inr (.inr (.inr (.inr (fun j => (f j).map ad)))))
  | Sum.inr (Sum.inr (c, fs)) => .inr (c, fs.map (pm_v ad))
def pm_w (dA : Nat → ClassId) (ad : Nat → Nat) (n : Nat) (h : HP) : va_W := (List.range n).map fun k => (ad k, pm_c dA ad (h k))
abbrev pm_T (dA : Nat → ClassId) : List (ClassId × FieldType) := [(dA 0, .int), (dA 1, .long), (dA 2, .boolean), (dA 3, .object RX4), (dA 4, .object RX2), (dA 5, .array .int), (dA 6, .array .long)]
theorem pm_w_at {dA : Nat → ClassId} {ad : Nat → Nat} {n : Nat} {h : HP} {k : Nat} (hk : k < n) : (pm_w dA ad n h)[k]? = some (ad k, pm_c dA ad (h k)) := by
  simp [pm_w, hk]
theorem pm_w_set {dA : Nat → ClassId} {ad : Nat → Nat} {n : Nat} {h : HP} {k : Nat} (hk : k < n) (c : PK) : (pm_w dA ad n h).set k (ad k, pm_c dA ad c) = pm_w dA ad n (va_up h k c) := by
  apply List.ext_getElem?
  intro i
  by_cases hi : i = k
  · subst hi
    rw [List.getElem?_set_self (by simpa [pm_w] using hk), pm_w_at hk, va_up_self]
  · rw [List.getElem?_set_ne (Ne.symm hi)]
    by_cases h2 : i < n
    · rw [pm_w_at h2, pm_w_at h2, va_up_ne _ _ hi]
    · rw [List.getElem?_eq_none (by simp [pm_w]; omega), List.getElem?_eq_none (by simp [pm_w]; omega)]
theorem pm_w_push {dA : Nat → ClassId} {ad : Nat → Nat} {n : Nat} {h : HP} (q : Nat) (c : PK) (hc : ∀ k, k < n → pm_c dA (va_up ad n q) (h k) = pm_c dA ad (h k)) (hc2 : pm_c dA (va_up ad n q) c = pm_c dA ad c) : pm_w dA ad n h ++ [(q, pm_c dA ad c)] = pm_w dA (va_up ad n q) (n + 1) (va_up h n c) := by
  unfold pm_w
  rw [List.range_succ, List.map_append]
  congr 1
  · apply List.map_congr_left
    intro k hk
    have hk2 : k < n := List.mem_range.mp hk
    rw [va_up_ne _ _ (show k ≠ n by omega), va_up_ne _ _ (show k ≠ n by omega), hc k hk2]
  · simp [va_up_self, hc2]
theorem pm_w_congr {dA : Nat → ClassId} {ad : Nat → Nat} {n : Nat} {h h' : HP} (hh : ∀ k, k < n → h k = h' k) : pm_w dA ad n h = pm_w dA ad n h' := by
  unfold pm_w
  apply List.map_congr_left
  intro k hk
  rw [hh k (List.mem_range.mp hk)]
theorem pm_w_adcongr {dA : Nat → ClassId} {ad ad' : Nat → Nat} {n : Nat} {h : HP} (h1 : ∀ k, k < n → ad k = ad' k) (hc : ∀ k, k < n → pm_c dA ad (h k) = pm_c dA ad' (h k)) : pm_w dA ad n h = pm_w dA ad' n h := by
  unfold pm_w
  apply List.map_congr_left
  intro k hk
  rw [h1 k (List.mem_range.mp hk), hc k (List.mem_range.mp hk)]
/-- the words of the tables that every method keeps -/
def tbw : List Cond := lw_tbl.filter goodWord
theorem tb_good {w : Cond} (h : w ∈ tbw) : (w.onTables && w.keeps) = true ∨ ∃ ty, w = .arrayClass ty := good_of_word (List.mem_filter.mp h).2
theorem tb_in {w : Cond} (h : w ∈ lw_tbl) (hg : goodWord w = true) : w ∈ tbw := List.mem_filter.mpr ⟨h, hg⟩
theorem va_AOA.moved {ty : FieldType} {u U : State} (hvm : u.vm.Alike U.vm) (h : va_AOA ty u) : va_AOA ty U := gx_over_alike hvm h
/-- the classes and the array classes, as the tables have them -/
def pm_K (D : va_G) (dA : Nat → ClassId) (U : State) : Prop := va_K D vwCl (pm_T dA) U ∧ va_AO RX4 U ∧ va_AO RX2 U ∧ va_AOA .int U ∧ va_AOA .long U
theorem pm_K.moved {D : va_G} {dA : Nat → ClassId} {u U : State} (hvm : u.vm.Alike U.vm) (h : pm_K D dA u) : pm_K D dA U := ⟨va_K.moved hvm h.1, va_AO.moved hvm h.2.1, va_AO.moved hvm h.2.2.1, va_AOA.moved hvm h.2.2.2.1, va_AOA.moved hvm h.2.2.2.2⟩
/-! locals -/
def lk : List (Option PV) → Nat → Option PV
  | [], _ => none
  | a :: _, 0 => a
  | _ :: r, i + 1 => lk r i
def ps : List (Option PV) → Nat → Option PV → List (Option PV)
  | [], _, _ => []
  | _ :: r, 0, o => o :: r
  | a :: r, i + 1, o => a :: ps r i o
def pcl (ls : List (Option PV)) (i : Nat) : List (Option PV) := match i with
  | 0 => ls
  | k + 1 => match lk ls k with
    | some (Sum.inr (Sum.inl _)) => ps ls k none
    | _ => ls
def s1 (ls : List (Option PV)) (i : Nat) (v : PV) : List (Option PV) := ps (pcl ls i) i (some v)
def s2 (ls : List (Option PV)) (i : Nat) (v : PV) : List (Option PV) := ps (ps (pcl ls i) i (some v)) (i + 1) none
theorem lk_ps : ∀ {ls : List (Option PV)} {i : Nat} {o : Option PV} {j : Nat} {v : PV}, lk (ps ls i o) j = some v → (j = i ∧ o = some v) ∨ (j ≠ i ∧ lk ls j = some v)
  | [], i, o, j, v, h => by simp [ps, lk] at h
  | a :: r, 0, o, 0, v, h => Or.inl ⟨rfl, h⟩
  | a :: r, 0, o, j + 1, v, h => Or.inr ⟨by omega, h⟩
  | a :: r, i + 1, o, 0, v, h => Or.inr ⟨by omega, h⟩
  | a :: r, i + 1, o, j + 1, v, h => by
    rcases lk_ps (ls := r) (i := i) (j := j) h with ⟨e, h1⟩ | ⟨e, h1⟩
    · exact Or.inl ⟨by omega, h1⟩
    · exact Or.inr ⟨by omega, h1⟩
theorem lk_lt : ∀ {ls : List (Option PV)} {i : Nat} {v : PV}, lk ls i = some v → i < ls.length
  | [], i, v, h => by simp [lk] at h
  | a :: r, 0, v, h => by simp
  | a :: r, i + 1, v, h => by
    have := lk_lt (ls := r) (i := i) h
    simp; omega
theorem lk_pcl {ls : List (Option PV)} {i j : Nat} {v : PV} (h : lk (pcl ls i) j = some v) : lk ls j = some v ∧ (j + 1 = i → ∀ z, v ≠ vL z) := by
  cases i with
  | zero => exact ⟨h, fun e => by omega⟩
  | succ k =>
    unfold pcl at h
    simp only at h
    split at h
    · rename_i z hz
      rcases lk_ps h with ⟨-, e⟩ | ⟨e, h1⟩
      · cases e
      · exact ⟨h1, fun e2 => absurd (by omega) e⟩
    · rename_i hz
      refine ⟨h, fun e z hv => ?_⟩
      have e2 : j = k := by omega
      subst e2
      exact hz z (by rw [h, hv])
def pm_l (ad : Nat → Nat) (ls : List (Option PV)) : List (Nat × Value) := (List.range ls.length).filterMap fun i => (lk ls i).map fun v => (i, pm_v ad v)
theorem pm_l_in {ad : Nat → Nat} {ls : List (Option PV)} {i : Nat} {v : PV} (h : lk ls i = some v) : (i, pm_v ad v) ∈ pm_l ad ls :=
  List.mem_filterMap.mpr ⟨i, List.mem_range.mpr (lk_lt h), by rw [h]; rfl⟩
theorem pm_l_of {ad : Nat → Nat} {ls : List (Option PV)} {q : Nat × Value} (h : q ∈ pm_l ad ls) : ∃ v, lk ls q.1 = some v ∧ q.2 = pm_v ad v := by
  obtain ⟨i, -, h2⟩ := List.mem_filterMap.mp h
  cases hl : lk ls i with
  | none => rw [hl] at h2; cases h2
  | some v =>
    rw [hl] at h2
    cases h2
    exact ⟨v, hl, rfl⟩
def lvs (ad : Nat → Nat) (A : Array Slot) (nL : Nat) (ls : List (Option PV)) : Prop := A.size = nL ∧ lv_wf A ∧ ∀ i v, lk ls i = some v → A[i]? = some (.val (pm_v ad v))
theorem lvs_has {ad : Nat → Nat} {A : Array Slot} {nL : Nat} {ls : List (Option PV)} (h : lvs ad A nL ls) : lv_has A nL (pm_l ad ls) :=
  ⟨h.1, h.2.1, fun q hq => by
    obtain ⟨v, h1, h2⟩ := pm_l_of hq
    rw [h.2.2 q.1 v h1, h2]⟩
theorem pm_cat {ad : Nat → Nat} {v : PV} (h : ∀ z, v ≠ vL z) : ((pm_v ad v).category == 2) = false := by
  rcases v with z | z | r
  · rfl
  · exact absurd rfl (h z)
  · cases r <;> rfl
theorem lvs_s1 {ad : Nat → Nat} {A : Array Slot} {nL i : Nat} {ls : List (Option PV)} {v : PV} (h : lv_has A nL ((i, pm_v ad v) :: (pm_l ad ls).filter (fun q => !(q.1 == i) && !(q.1 + 1 == i && q.2.category == 2)))) : lvs ad A nL (s1 ls i v) := by
  refine ⟨h.1, h.2.1, fun j w hj => ?_⟩
  rcases lk_ps hj with ⟨e, e2⟩ | ⟨hne, hj⟩
  · cases e2
    rw [e]
    exact h.2.2 (i, _) List.mem_cons_self
  · obtain ⟨h1, h2⟩ := lk_pcl hj
    refine h.2.2 (j, pm_v ad w) (List.mem_cons_of_mem _ (List.mem_filter.mpr ⟨pm_l_in h1, ?_⟩))
    by_cases e : j + 1 = i
    · rw [pm_cat (h2 e)]
      simp [hne]
    · simp [hne, e]
theorem lvs_s2 {ad : Nat → Nat} {A : Array Slot} {nL i : Nat} {ls : List (Option PV)} {v : PV} (h : lv_has A nL ((i, pm_v ad v) :: (pm_l ad ls).filter (fun q => !(q.1 == i) && (!(q.1 == i + 1) && !(q.1 + 1 == i && q.2.category == 2))))) : lvs ad A nL (s2 ls i v) := by
  refine ⟨h.1, h.2.1, fun j w hj => ?_⟩
  rcases lk_ps hj with ⟨e, e2⟩ | ⟨hne2, hj⟩
  · cases e2
  rcases lk_ps hj with ⟨e, e2⟩ | ⟨hne, hj⟩
  · cases e2
    rw [e]
    exact h.2.2 (i, _) List.mem_cons_self
  · obtain ⟨h1, h2⟩ := lk_pcl hj
    refine h.2.2 (j, pm_v ad w) (List.mem_cons_of_mem _ (List.mem_filter.mpr ⟨pm_l_in h1, ?_⟩))
    by_cases e : j + 1 = i
    · rw [pm_cat (h2 e)]
      simp [hne, hne2]
    · simp [hne, hne2, e]
/-! the judgement -/
def Cx (y : MethodName) (cc : ByteArray) (nL : Nat) (rt : Option FieldType) (p : Program) (s : State) (m : MethodId) (args : Array Value) (meth : Method) (c : Code) : Prop :=
  p.tables.exec = Jvm.exec ∧ c.code = cc ∧ meth.sig.returnType = rt ∧ c.maxLocals = nL ∧ s.vm.findClass y.cls = some m.cls ∧ (∀ w ∈ tbw, w.before args s = true) ∧ meth.locks = false ∧ meth.name = y.name
abbrev EE : Type := State → (Nat → Prop) → Prop
abbrev ZZ : Type := List Frame → Array Value → State → va_G → (Nat → ClassId) → (Nat → Nat) → (Nat → Prop) → State → Prop
def Ev (l : Launch) (y : MethodName) (cc : ByteArray) (nL : Nat) (rt : Option FieldType) (R : Room) (E : EE) (Z : ZZ) (n0 pc : Nat) (ls : List (Option PV)) (st : List PV) (n ce sl : Nat) (h : HP) : Prop :=
  ∀ (p : Program) (e : Env) (s : State) (m : MethodId) (args : Array Value) (below : List Frame) (meth : Method) (c : Code), Cx y cc nL rt p s m args meth c →
  ∀ (D : va_G) (dA : Nat → ClassId) (ad0 ad : Nat → Nat) (A : Nat → Prop) (H : Heap) (locs : List Loc) (lsA : Array Slot),
    E s A → n0 ≤ n → (∀ k, k < n0 → ad k = ad0 k) → (n = n0 → ad = ad0) → pm_K D dA s → va_P D vwCl (pm_w dA ad n h) H → va_D A (pm_w dA ad n h) → va_S A s.heap H locs → (∀ q, s.heap.size ≤ q → A q) → lvs ad lsA nL ls →
    W p l e R s m args below meth c H locs ce sl (Z below args s D dA ad0 A) (F0 m pc lsA (st.map (pm_v ad)))
section EV
variable {l : Launch} {y : MethodName} {cc : ByteArray} {nL : Nat} {rt : Option FieldType} {R : Room} {E : EE} {Z : ZZ} {n0 pc : Nat} {ls : List (Option PV)} {st : List PV} {n ce sl : Nat} {h : HP}
theorem ev_congr {h' : HP} (hh : ∀ k, k < n → h k = h' k) (k : Ev l y cc nL rt R E Z n0 pc ls st n ce sl h') : Ev l y cc nL rt R E Z n0 pc ls st n ce sl h := by
  intro p e s m args below meth c C D dA ad0 ad A H locs lsA a0 a1 a2 a3 hK hP hD hS hA hl
  rw [pm_w_congr hh] at hP hD
  exact k p e s m args below meth c C D dA ad0 ad A H locs lsA a0 a1 a2 a3 hK hP hD hS hA hl
/-- a row that leaves heap and locals -/
theorem ev_STP {pc' : Nat} {st' : List PV} (hW : ∀ {p : Program} {e : Env} {s : State} {m : MethodId} {args : Array Value} {below : List Frame} {meth : Method} {c : Code} {H : Heap} {locs : List Loc} {Qf : State → Prop} {lsA : Array Slot} (ad : Nat → Nat), Cx y cc nL rt p s m args meth c → lvs ad lsA nL ls →
      W p l e R s m args below meth c H locs ce sl Qf (F0 m pc' lsA (st'.map (pm_v ad))) → W p l e R s m args below meth c H locs ce sl Qf (F0 m pc lsA (st.map (pm_v ad))))
    (k : Ev l y cc nL rt R E Z n0 pc' ls st' n ce sl h) : Ev l y cc nL rt R E Z n0 pc ls st n ce sl h := by
  intro p e s m args below meth c C D dA ad0 ad A H locs lsA a0 a1 a2 a3 hK hP hD hS hA hl
  exact hW ad C hl (k p e s m args below meth c C D dA ad0 ad A H locs lsA a0 a1 a2 a3 hK hP hD hS hA hl)
/-- a branch -/
theorem ev_BRN {P : Prop} {pt pf : Nat} {st' : List PV} (hW : ∀ {p : Program} {e : Env} {s : State} {m : MethodId} {args : Array Value} {below : List Frame} {meth : Method} {c : Code} {H : Heap} {locs : List Loc} {Qf : State → Prop} {lsA : Array Slot} (ad : Nat → Nat), Cx y cc nL rt p s m args meth c → lvs ad lsA nL ls →
      (P → W p l e R s m args below meth c H locs ce sl Qf (F0 m pt lsA (st'.map (pm_v ad)))) → (¬ P → W p l e R s m args below meth c H locs ce sl Qf (F0 m pf lsA (st'.map (pm_v ad)))) → W p l e R s m args below meth c H locs ce sl Qf (F0 m pc lsA (st.map (pm_v ad))))
    (kt : P → Ev l y cc nL rt R E Z n0 pt ls st' n ce sl h) (kf : ¬ P → Ev l y cc nL rt R E Z n0 pf ls st' n ce sl h) : Ev l y cc nL rt R E Z n0 pc ls st n ce sl h := by
  intro p e s m args below meth c C D dA ad0 ad A H locs lsA a0 a1 a2 a3 hK hP hD hS hA hl
  exact hW ad C hl (fun q => kt q p e s m args below meth c C D dA ad0 ad A H locs lsA a0 a1 a2 a3 hK hP hD hS hA hl) (fun q => kf q p e s m args below meth c C D dA ad0 ad A H locs lsA a0 a1 a2 a3 hK hP hD hS hA hl)
/-- a row that stores a local -/
theorem ev_LOC {pc' : Nat} {ls' : List (Option PV)} {st' : List PV} (hW : ∀ {p : Program} {e : Env} {s : State} {m : MethodId} {args : Array Value} {below : List Frame} {meth : Method} {c : Code} {H : Heap} {locs : List Loc} {Qf : State → Prop} {lsA : Array Slot} (ad : Nat → Nat), Cx y cc nL rt p s m args meth c → lvs ad lsA nL ls →
      (∀ lsB, lvs ad lsB nL ls' → W p l e R s m args below meth c H locs ce sl Qf (F0 m pc' lsB (st'.map (pm_v ad)))) → W p l e R s m args below meth c H locs ce sl Qf (F0 m pc lsA (st.map (pm_v ad))))
    (k : Ev l y cc nL rt R E Z n0 pc' ls' st' n ce sl h) : Ev l y cc nL rt R E Z n0 pc ls st n ce sl h := by
  intro p e s m args below meth c C D dA ad0 ad A H locs lsA a0 a1 a2 a3 hK hP hD hS hA hl
  exact hW ad C hl (fun lsB hB => k p e s m args below meth c C D dA ad0 ad A H locs lsB a0 a1 a2 a3 hK hP hD hS hA hB)
theorem pm_r32 {z : Int} (h : -2147483648 ≤ z ∧ z < 2147483648) : (Int32.ofInt z).toInt = z := Int32.toInt_ofInt_of_le (by omega) (by omega)
theorem pm_r64 {z : Int} (h : -9223372036854775808 ≤ z ∧ z < 9223372036854775808) : (Int64.ofInt z).toInt = z := Int64.toInt_ofInt_of_le (by omega) (by omega)
theorem pm_z32 : (0 : Int32).toInt = 0 := by decide

theorem ev_iconst {z : Int} (hd : decode cc pc = .ok (.iconst z, 1)) (k : Ev l y cc nL rt R E Z n0 (pc + 1) ls (vI z :: st) n ce sl h) : Ev l y cc nL rt R E Z n0 pc ls st n ce sl h :=
  ev_STP (fun ad C hl k => lv_iconst C.1 C.2.1 hd rfl k) k

theorem ev_bipush {z : Int} (hd : decode cc pc = .ok (.bipush z, 2)) (hz : (Int8.ofInt z).toInt32 = Int32.ofInt z := by decide) (k : Ev l y cc nL rt R E Z n0 (pc + 2) ls (vI z :: st) n ce sl h) : Ev l y cc nL rt R E Z n0 pc ls st n ce sl h :=
  ev_STP (fun ad C hl k => lv_bipush C.1 C.2.1 hd hz k) k

theorem ev_sipush {z : Int} (hd : decode cc pc = .ok (.sipush z, 3)) (hz : (Int16.ofInt z).toInt32 = Int32.ofInt z := by decide) (k : Ev l y cc nL rt R E Z n0 (pc + 3) ls (vI z :: st) n ce sl h) : Ev l y cc nL rt R E Z n0 pc ls st n ce sl h :=
  ev_STP (fun ad C hl k => lv_sipush C.1 C.2.1 hd hz k) k

theorem ev_lconst0 (hd : decode cc pc = .ok (.lconst 0, 1)) (k : Ev l y cc nL rt R E Z n0 (pc + 1) ls (vL 0 :: st) n ce sl h) : Ev l y cc nL rt R E Z n0 pc ls st n ce sl h :=
  ev_STP (fun ad C hl k => lv_lconst C.1 C.2.1 hd (by decide) k) k

theorem ev_lconst1 (hd : decode cc pc = .ok (.lconst 1, 1)) (k : Ev l y cc nL rt R E Z n0 (pc + 1) ls (vL 1 :: st) n ce sl h) : Ev l y cc nL rt R E Z n0 pc ls st n ce sl h :=
  ev_STP (fun ad C hl k => lv_lconst C.1 C.2.1 hd (by decide) k) k

theorem ev_ldc {i : Nat} (z : Int) {w : Int32} (hw : Cond.constant y.cls i w ∈ tbw) (hd : decode cc pc = .ok (.ldc i, 2)) (hz : w = Int32.ofInt z := by decide) (k : Ev l y cc nL rt R E Z n0 (pc + 2) ls (vI z :: st) n ce sl h) : Ev l y cc nL rt R E Z n0 pc ls st n ce sl h :=
  ev_STP (fun ad C hl k => lv_ldc C.1 C.2.1 C.2.2.2.2.1 (hz ▸ C.2.2.2.2.2.1 _ hw) hd k) k

theorem ev_ldc2 {i : Nat} (z : Int) {w : Int64} (hw : Cond.constantLong y.cls i w ∈ tbw) (hd : decode cc pc = .ok (.ldc2_w i, 3)) (hz : w = Int64.ofInt z := by decide) (k : Ev l y cc nL rt R E Z n0 (pc + 3) ls (vL z :: st) n ce sl h) : Ev l y cc nL rt R E Z n0 pc ls st n ce sl h :=
  ev_STP (fun ad C hl k => lv_ldc2 C.1 C.2.1 C.2.2.2.2.1 (hz ▸ C.2.2.2.2.2.1 _ hw) hd k) k

theorem ev_iload_n {j : Fin 4} {x : Int} (hd : decode cc pc = .ok (.iload_n j, 1)) (hl : lk ls j = some (vI x)) (k : Ev l y cc nL rt R E Z n0 (pc + 1) ls (vI x :: st) n ce sl h) : Ev l y cc nL rt R E Z n0 pc ls st n ce sl h :=
  ev_STP (fun ad C hL k => lv_iload_n C.1 C.2.1 hd rfl (hL.2.2 _ _ hl) k) k

theorem ev_iload {j : Nat} {x : Int} (hd : decode cc pc = .ok (.iload j, 2)) (hl : lk ls j = some (vI x)) (k : Ev l y cc nL rt R E Z n0 (pc + 2) ls (vI x :: st) n ce sl h) : Ev l y cc nL rt R E Z n0 pc ls st n ce sl h :=
  ev_STP (fun ad C hL k => lv_iload C.1 C.2.1 hd (hL.2.2 _ _ hl) k) k

theorem ev_lload_n {j : Fin 4} {x : Int} (hd : decode cc pc = .ok (.lload_n j, 1)) (hl : lk ls j = some (vL x)) (k : Ev l y cc nL rt R E Z n0 (pc + 1) ls (vL x :: st) n ce sl h) : Ev l y cc nL rt R E Z n0 pc ls st n ce sl h :=
  ev_STP (fun ad C hL k => lv_lload_n C.1 C.2.1 hd rfl (hL.2.2 _ _ hl) k) k

theorem ev_lload {j : Nat} {x : Int} (hd : decode cc pc = .ok (.lload j, 2)) (hl : lk ls j = some (vL x)) (k : Ev l y cc nL rt R E Z n0 (pc + 2) ls (vL x :: st) n ce sl h) : Ev l y cc nL rt R E Z n0 pc ls st n ce sl h :=
  ev_STP (fun ad C hL k => lv_lload C.1 C.2.1 hd (hL.2.2 _ _ hl) k) k

theorem ev_aload_n {j : Fin 4} {x : Nat} (hd : decode cc pc = .ok (.aload_n j, 1)) (hl : lk ls j = some (vR x)) (k : Ev l y cc nL rt R E Z n0 (pc + 1) ls (vR x :: st) n ce sl h) : Ev l y cc nL rt R E Z n0 pc ls st n ce sl h :=
  ev_STP (fun ad C hL k => lv_aload_n C.1 C.2.1 hd rfl (hL.2.2 _ _ hl) k) k

theorem ev_aload {j : Nat} {x : Nat} (hd : decode cc pc = .ok (.aload j, 2)) (hl : lk ls j = some (vR x)) (k : Ev l y cc nL rt R E Z n0 (pc + 2) ls (vR x :: st) n ce sl h) : Ev l y cc nL rt R E Z n0 pc ls st n ce sl h :=
  ev_STP (fun ad C hL k => lv_aload C.1 C.2.1 hd (hL.2.2 _ _ hl) k) k

theorem ev_istore_n {j : Fin 4} {x : Int} (hd : decode cc pc = .ok (.istore_n j, 1)) (hj : (j : Nat) < nL) (k : Ev l y cc nL rt R E Z n0 (pc + 1) (s1 ls (j : Nat) (vI x)) st n ce sl h) : Ev l y cc nL rt R E Z n0 pc ls (vI x :: st) n ce sl h :=
  ev_LOC (fun ad C hL k => lv_istore_n C.1 C.2.1 hd rfl (lvs_has hL) hj rfl (fun lsB hB => k lsB (lvs_s1 (v := vI x) hB))) k

theorem ev_istore {j : Nat} {x : Int} (hd : decode cc pc = .ok (.istore j, 2)) (hj : j < nL) (k : Ev l y cc nL rt R E Z n0 (pc + 2) (s1 ls j (vI x)) st n ce sl h) : Ev l y cc nL rt R E Z n0 pc ls (vI x :: st) n ce sl h :=
  ev_LOC (fun ad C hL k => lv_istore C.1 C.2.1 hd (lvs_has hL) hj rfl (fun lsB hB => k lsB (lvs_s1 (v := vI x) hB))) k

theorem ev_lstore_n {j : Fin 4} {x : Int} (hd : decode cc pc = .ok (.lstore_n j, 1)) (hj : (j : Nat) + 1 < nL) (k : Ev l y cc nL rt R E Z n0 (pc + 1) (s2 ls (j : Nat) (vL x)) st n ce sl h) : Ev l y cc nL rt R E Z n0 pc ls (vL x :: st) n ce sl h :=
  ev_LOC (fun ad C hL k => lv_lstore_n C.1 C.2.1 hd rfl (lvs_has hL) hj rfl (fun lsB hB => k lsB (lvs_s2 (v := vL x) hB))) k

theorem ev_lstore {j : Nat} {x : Int} (hd : decode cc pc = .ok (.lstore j, 2)) (hj : j + 1 < nL) (k : Ev l y cc nL rt R E Z n0 (pc + 2) (s2 ls j (vL x)) st n ce sl h) : Ev l y cc nL rt R E Z n0 pc ls (vL x :: st) n ce sl h :=
  ev_LOC (fun ad C hL k => lv_lstore C.1 C.2.1 hd (lvs_has hL) hj rfl (fun lsB hB => k lsB (lvs_s2 (v := vL x) hB))) k

theorem ev_astore_n {j : Fin 4} {x : Nat} (hd : decode cc pc = .ok (.astore_n j, 1)) (hj : (j : Nat) < nL) (k : Ev l y cc nL rt R E Z n0 (pc + 1) (s1 ls (j : Nat) (vR x)) st n ce sl h) : Ev l y cc nL rt R E Z n0 pc ls (vR x :: st) n ce sl h :=
  ev_LOC (fun ad C hL k => lv_astore_n C.1 C.2.1 hd rfl (lvs_has hL) hj rfl (fun lsB hB => k lsB (lvs_s1 (v := vR x) hB))) k

theorem ev_astore {j : Nat} {x : Nat} (hd : decode cc pc = .ok (.astore j, 2)) (hj : j < nL) (k : Ev l y cc nL rt R E Z n0 (pc + 2) (s1 ls j (vR x)) st n ce sl h) : Ev l y cc nL rt R E Z n0 pc ls (vR x :: st) n ce sl h :=
  ev_LOC (fun ad C hL k => lv_astore C.1 C.2.1 hd (lvs_has hL) hj rfl (fun lsB hB => k lsB (lvs_s1 (v := vR x) hB))) k

theorem ev_iinc {j : Nat} {x z : Int} (hd : decode cc pc = .ok (.iinc j z, 3)) (hl : lk ls j = some (vI x)) (hj : j < nL) (k : Ev l y cc nL rt R E Z n0 (pc + 3) (s1 ls j (vI (x + z))) st n ce sl h) : Ev l y cc nL rt R E Z n0 pc ls st n ce sl h :=
  ev_LOC (fun ad C hL k => by
    obtain ⟨i, hi⟩ := List.getElem?_of_mem (pm_l_in (ad := ad) hl)
    exact lv_iinc C.1 C.2.1 hd (lvs_has hL) (k := i) hi (v := Int32.ofInt (x + z)) (by rw [Int32.ofInt_add]) hj rfl (fun lsB hB => k lsB (lvs_s1 (v := vI (x + z)) hB))) k

theorem ev_iadd {a b : Int} (hd : decode cc pc = .ok (.iadd, 1)) (k : Ev l y cc nL rt R E Z n0 (pc + 1) ls (vI (a + b) :: st) n ce sl h) : Ev l y cc nL rt R E Z n0 pc ls (vI b :: vI a :: st) n ce sl h :=
  ev_STP (fun ad C hl k => lv_iadd C.1 C.2.1 hd (by rw [← Int32.ofInt_add]; exact k)) k

theorem ev_isub {a b : Int} (hd : decode cc pc = .ok (.isub, 1)) (k : Ev l y cc nL rt R E Z n0 (pc + 1) ls (vI (a - b) :: st) n ce sl h) : Ev l y cc nL rt R E Z n0 pc ls (vI b :: vI a :: st) n ce sl h :=
  ev_STP (fun ad C hl k => lv_isub C.1 C.2.1 hd (by rw [← Int32.ofInt_sub]; exact k)) k

theorem ev_imul {a b : Int} (hd : decode cc pc = .ok (.imul, 1)) (k : Ev l y cc nL rt R E Z n0 (pc + 1) ls (vI (a * b) :: st) n ce sl h) : Ev l y cc nL rt R E Z n0 pc ls (vI b :: vI a :: st) n ce sl h :=
  ev_STP (fun ad C hl k => lv_imul C.1 C.2.1 hd (by rw [← Int32.ofInt_mul]; exact k)) k

theorem ev_ladd {a b : Int} (hd : decode cc pc = .ok (.ladd, 1)) (k : Ev l y cc nL rt R E Z n0 (pc + 1) ls (vL (a + b) :: st) n ce sl h) : Ev l y cc nL rt R E Z n0 pc ls (vL b :: vL a :: st) n ce sl h :=
  ev_STP (fun ad C hl k => lv_ladd C.1 C.2.1 hd (by rw [← Int64.ofInt_add]; exact k)) k

theorem ev_lsub {a b : Int} (hd : decode cc pc = .ok (.lsub, 1)) (k : Ev l y cc nL rt R E Z n0 (pc + 1) ls (vL (a - b) :: st) n ce sl h) : Ev l y cc nL rt R E Z n0 pc ls (vL b :: vL a :: st) n ce sl h :=
  ev_STP (fun ad C hl k => lv_lsub C.1 C.2.1 hd (by rw [← Int64.ofInt_sub]; exact k)) k

theorem ev_lmul {a b : Int} (hd : decode cc pc = .ok (.lmul, 1)) (k : Ev l y cc nL rt R E Z n0 (pc + 1) ls (vL (a * b) :: st) n ce sl h) : Ev l y cc nL rt R E Z n0 pc ls (vL b :: vL a :: st) n ce sl h :=
  ev_STP (fun ad C hl k => lv_lmul C.1 C.2.1 hd (by rw [← Int64.ofInt_mul]; exact k)) k

theorem ev_lneg {a : Int} (hd : decode cc pc = .ok (.lneg, 1)) (k : Ev l y cc nL rt R E Z n0 (pc + 1) ls (vL (-a) :: st) n ce sl h) : Ev l y cc nL rt R E Z n0 pc ls (vL a :: st) n ce sl h :=
  ev_STP (fun ad C hl k => lv_lneg C.1 C.2.1 hd (by rw [← Int64.ofInt_neg]; exact k)) k

theorem pm_ne64 {z : Int} (h : -9223372036854775808 ≤ z ∧ z < 9223372036854775808) (h0 : z ≠ 0) : ¬ Int64.ofInt z = 0 := fun q => h0 (by have := congrArg Int64.toInt q; rw [pm_r64 h] at this; simpa using this)
theorem pm_ne32 {z : Int} (h : -2147483648 ≤ z ∧ z < 2147483648) (h0 : z ≠ 0) : ¬ Int32.ofInt z = 0 := fun q => h0 (by have := congrArg Int32.toInt q; rw [pm_r32 h] at this; simpa using this)
theorem pm_div64 {a b : Int} (ha : -9223372036854775808 ≤ a ∧ a < 9223372036854775808) (hb : -9223372036854775808 ≤ b ∧ b < 9223372036854775808) : Int64.ofInt a / Int64.ofInt b = Int64.ofInt (a.tdiv b) := (Int64.ofInt_tdiv (by rw [Int64.toInt_minValue]; omega) (by rw [Int64.toInt_maxValue]; omega) (by rw [Int64.toInt_minValue]; omega) (by rw [Int64.toInt_maxValue]; omega)).symm
theorem pm_div32 {a b : Int} (ha : -2147483648 ≤ a ∧ a < 2147483648) (hb : -2147483648 ≤ b ∧ b < 2147483648) : Int32.ofInt a / Int32.ofInt b = Int32.ofInt (a.tdiv b) := (Int32.ofInt_tdiv (by rw [Int32.toInt_minValue]; omega) (by rw [Int32.toInt_maxValue]; omega) (by rw [Int32.toInt_minValue]; omega) (by rw [Int32.toInt_maxValue]; omega)).symm
theorem pm_tm (a b : Int) : a - a.tdiv b * b = a.tmod b := by have := Int.tmod_add_tdiv_mul a b; omega

theorem ev_ldiv {a b : Int} (hd : decode cc pc = .ok (.ldiv, 1)) (ha : -9223372036854775808 ≤ a ∧ a < 9223372036854775808) (hb : -9223372036854775808 ≤ b ∧ b < 9223372036854775808) (h0 : b ≠ 0) (k : Ev l y cc nL rt R E Z n0 (pc + 1) ls (vL (a.tdiv b) :: st) n ce sl h) : Ev l y cc nL rt R E Z n0 pc ls (vL b :: vL a :: st) n ce sl h :=
  ev_STP (fun ad C hl k => lv_ldiv C.1 C.2.1 hd (pm_ne64 hb h0) (by rw [pm_div64 ha hb]; exact k)) k

theorem ev_lrem {a b : Int} (hd : decode cc pc = .ok (.lrem, 1)) (ha : -9223372036854775808 ≤ a ∧ a < 9223372036854775808) (hb : -9223372036854775808 ≤ b ∧ b < 9223372036854775808) (h0 : b ≠ 0) (k : Ev l y cc nL rt R E Z n0 (pc + 1) ls (vL (a.tmod b) :: st) n ce sl h) : Ev l y cc nL rt R E Z n0 pc ls (vL b :: vL a :: st) n ce sl h :=
  ev_STP (fun ad C hl k => lv_lrem C.1 C.2.1 hd (pm_ne64 hb h0) (by rw [pm_div64 ha hb, ← Int64.ofInt_mul, ← Int64.ofInt_sub, pm_tm]; exact k)) k

theorem ev_irem {a b : Int} (hd : decode cc pc = .ok (.irem, 1)) (ha : -2147483648 ≤ a ∧ a < 2147483648) (hb : -2147483648 ≤ b ∧ b < 2147483648) (h0 : b ≠ 0) (k : Ev l y cc nL rt R E Z n0 (pc + 1) ls (vI (a.tmod b) :: st) n ce sl h) : Ev l y cc nL rt R E Z n0 pc ls (vI b :: vI a :: st) n ce sl h :=
  ev_STP (fun ad C hl k => lv_irem C.1 C.2.1 hd (pm_ne32 hb h0) (by rw [pm_div32 ha hb, ← Int32.ofInt_mul, ← Int32.ofInt_sub, pm_tm]; exact k)) k

theorem ev_i2l {a : Int} (hd : decode cc pc = .ok (.i2l, 1)) (ha : -2147483648 ≤ a ∧ a < 2147483648) (k : Ev l y cc nL rt R E Z n0 (pc + 1) ls (vL a :: st) n ce sl h) : Ev l y cc nL rt R E Z n0 pc ls (vI a :: st) n ce sl h :=
  ev_STP (fun ad C hl k => lv_i2l C.1 C.2.1 hd (Int32.toInt64_ofInt (by rw [Int32.toInt_minValue]; omega) (by rw [Int32.toInt_maxValue]; omega)) k) k

theorem ev_l2i {a : Int} (hd : decode cc pc = .ok (.l2i, 1)) (k : Ev l y cc nL rt R E Z n0 (pc + 1) ls (vI a :: st) n ce sl h) : Ev l y cc nL rt R E Z n0 pc ls (vL a :: st) n ce sl h :=
  ev_STP (fun ad C hl k => lv_l2i C.1 C.2.1 hd Int64.toInt32_ofInt k) k

theorem ev_dup_I {a : Int} (hd : decode cc pc = .ok (.dup, 1)) (k : Ev l y cc nL rt R E Z n0 (pc + 1) ls (vI a :: vI a :: st) n ce sl h) : Ev l y cc nL rt R E Z n0 pc ls (vI a :: st) n ce sl h :=
  ev_STP (fun ad C hl k => lv_dup C.1 C.2.1 hd rfl k) k

theorem ev_dup_R {a : Nat} (hd : decode cc pc = .ok (.dup, 1)) (k : Ev l y cc nL rt R E Z n0 (pc + 1) ls (vR a :: vR a :: st) n ce sl h) : Ev l y cc nL rt R E Z n0 pc ls (vR a :: st) n ce sl h :=
  ev_STP (fun ad C hl k => lv_dup C.1 C.2.1 hd rfl k) k

theorem ev_dup2 {a : Int} {r : Nat} (hd : decode cc pc = .ok (.dup2, 1)) (k : Ev l y cc nL rt R E Z n0 (pc + 1) ls (vI a :: vR r :: vI a :: vR r :: st) n ce sl h) : Ev l y cc nL rt R E Z n0 pc ls (vI a :: vR r :: st) n ce sl h :=
  ev_STP (fun ad C hl k => lv_dup2_11 C.1 C.2.1 hd rfl rfl k) k

theorem ev_goto {off : Int} (tgt : Nat) (hd : decode cc pc = .ok (.goto off, 3)) (k : Ev l y cc nL rt R E Z n0 tgt ls st n ce sl h) (ht : (pc : Int) + off = (tgt : Int) := by decide) : Ev l y cc nL rt R E Z n0 pc ls st n ce sl h :=
  ev_STP (fun ad C hl k => lv_goto C.1 C.2.1 hd ht k) k

theorem pm_eq32 {x y : Int} (hx : -2147483648 ≤ x ∧ x < 2147483648) (hy : -2147483648 ≤ y ∧ y < 2147483648) : Int32.ofInt x = Int32.ofInt y ↔ x = y := ⟨fun q => by have := congrArg Int32.toInt q; rwa [pm_r32 hx, pm_r32 hy] at this, fun q => by rw [q]⟩
theorem pm_lt32 {x y : Int} (hx : -2147483648 ≤ x ∧ x < 2147483648) (hy : -2147483648 ≤ y ∧ y < 2147483648) : Int32.ofInt x < Int32.ofInt y ↔ x < y := by rw [Int32.lt_iff_toInt_lt, pm_r32 hx, pm_r32 hy]
theorem pm_le32 {x y : Int} (hx : -2147483648 ≤ x ∧ x < 2147483648) (hy : -2147483648 ≤ y ∧ y < 2147483648) : Int32.ofInt x ≤ Int32.ofInt y ↔ x ≤ y := by rw [Int32.le_iff_toInt_le, pm_r32 hx, pm_r32 hy]
theorem pm_eq64 {x y : Int} (hx : -9223372036854775808 ≤ x ∧ x < 9223372036854775808) (hy : -9223372036854775808 ≤ y ∧ y < 9223372036854775808) : Int64.ofInt x = Int64.ofInt y ↔ x = y := ⟨fun q => by have := congrArg Int64.toInt q; rwa [pm_r64 hx, pm_r64 hy] at this, fun q => by rw [q]⟩
theorem pm_lt64 {x y : Int} (hx : -9223372036854775808 ≤ x ∧ x < 9223372036854775808) (hy : -9223372036854775808 ≤ y ∧ y < 9223372036854775808) : Int64.ofInt x < Int64.ofInt y ↔ x < y := by rw [Int64.lt_iff_toInt_lt, pm_r64 hx, pm_r64 hy]
theorem pm_le64 {x y : Int} (hx : -9223372036854775808 ≤ x ∧ x < 9223372036854775808) (hy : -9223372036854775808 ≤ y ∧ y < 9223372036854775808) : Int64.ofInt x ≤ Int64.ofInt y ↔ x ≤ y := by rw [Int64.le_iff_toInt_le, pm_r64 hx, pm_r64 hy]
theorem pm_o0 : (0 : Int32) = Int32.ofInt 0 := by decide
theorem pm_00 : (-2147483648 : Int) ≤ 0 ∧ (0 : Int) < 2147483648 := by decide

theorem ev_if_eq {off : Int} (tgt : Nat) {x : Int} (hd : decode cc pc = .ok (.ifCond .eq off, 3)) (hx : -2147483648 ≤ x ∧ x < 2147483648) (kt : x = 0 → Ev l y cc nL rt R E Z n0 tgt ls st n ce sl h) (kf : ¬ (x = 0) → Ev l y cc nL rt R E Z n0 (pc + 3) ls st n ce sl h) (ht : (pc : Int) + off = (tgt : Int) := by decide) : Ev l y cc nL rt R E Z n0 pc ls (vI x :: st) n ce sl h :=
  ev_BRN (P := x = 0) (fun ad C hl kt kf => lv_if_eq C.1 C.2.1 hd ht (by rw [pm_o0]; exact (fun q => kt ((pm_eq32 hx pm_00).mp q))) (by rw [pm_o0]; exact (fun q => kf (fun e => q ((pm_eq32 hx pm_00).mpr e))))) kt kf

theorem ev_icmp_eq {off : Int} (tgt : Nat) {x z : Int} (hd : decode cc pc = .ok (.if_icmp .eq off, 3)) (hx : -2147483648 ≤ x ∧ x < 2147483648) (hy : -2147483648 ≤ z ∧ z < 2147483648) (kt : x = z → Ev l y cc nL rt R E Z n0 tgt ls st n ce sl h) (kf : ¬ (x = z) → Ev l y cc nL rt R E Z n0 (pc + 3) ls st n ce sl h) (ht : (pc : Int) + off = (tgt : Int) := by decide) : Ev l y cc nL rt R E Z n0 pc ls (vI z :: vI x :: st) n ce sl h :=
  ev_BRN (P := x = z) (fun ad C hl kt kf => lv_icmp_eq C.1 C.2.1 hd ht (fun q => kt ((pm_eq32 hx hy).mp q)) (fun q => kf (fun e => q ((pm_eq32 hx hy).mpr e)))) kt kf

theorem ev_lcmp_eq {off : Int} (tgt : Nat) {x z : Int} (hd0 : decode cc pc = .ok (.lcmp, 1)) (hd : decode cc (pc + 1) = .ok (.ifCond .eq off, 3)) (hx : -9223372036854775808 ≤ x ∧ x < 9223372036854775808) (hy : -9223372036854775808 ≤ z ∧ z < 9223372036854775808) (kt : x = z → Ev l y cc nL rt R E Z n0 tgt ls st n ce sl h) (kf : ¬ (x = z) → Ev l y cc nL rt R E Z n0 (pc + 1 + 3) ls st n ce sl h) (ht : ((pc + 1 : Nat) : Int) + off = (tgt : Int) := by decide) : Ev l y cc nL rt R E Z n0 pc ls (vL z :: vL x :: st) n ce sl h :=
  ev_BRN (P := x = z) (fun ad C hl kt kf => W.lcmp C.1 C.2.1 hd0 (lv_if_eq C.1 C.2.1 hd ht (fun q => kt (((lg_cmp_eq _ _).trans (pm_eq64 hx hy)).mp q)) (fun q => kf (fun e => q (((lg_cmp_eq _ _).trans (pm_eq64 hx hy)).mpr e))))) kt kf

theorem ev_if_ne {off : Int} (tgt : Nat) {x : Int} (hd : decode cc pc = .ok (.ifCond .ne off, 3)) (hx : -2147483648 ≤ x ∧ x < 2147483648) (kt : x ≠ 0 → Ev l y cc nL rt R E Z n0 tgt ls st n ce sl h) (kf : ¬ (x ≠ 0) → Ev l y cc nL rt R E Z n0 (pc + 3) ls st n ce sl h) (ht : (pc : Int) + off = (tgt : Int) := by decide) : Ev l y cc nL rt R E Z n0 pc ls (vI x :: st) n ce sl h :=
  ev_BRN (P := x ≠ 0) (fun ad C hl kt kf => lv_if_ne C.1 C.2.1 hd ht (by rw [pm_o0]; exact (fun q => kt (fun e => q ((pm_eq32 hx pm_00).mpr e)))) (by rw [pm_o0]; exact (fun q => kf (fun e => e ((pm_eq32 hx pm_00).mp q))))) kt kf

theorem ev_icmp_ne {off : Int} (tgt : Nat) {x z : Int} (hd : decode cc pc = .ok (.if_icmp .ne off, 3)) (hx : -2147483648 ≤ x ∧ x < 2147483648) (hy : -2147483648 ≤ z ∧ z < 2147483648) (kt : x ≠ z → Ev l y cc nL rt R E Z n0 tgt ls st n ce sl h) (kf : ¬ (x ≠ z) → Ev l y cc nL rt R E Z n0 (pc + 3) ls st n ce sl h) (ht : (pc : Int) + off = (tgt : Int) := by decide) : Ev l y cc nL rt R E Z n0 pc ls (vI z :: vI x :: st) n ce sl h :=
  ev_BRN (P := x ≠ z) (fun ad C hl kt kf => lv_icmp_ne C.1 C.2.1 hd ht (fun q => kt (fun e => q ((pm_eq32 hx hy).mpr e))) (fun q => kf (fun e => e ((pm_eq32 hx hy).mp q)))) kt kf

theorem ev_lcmp_ne {off : Int} (tgt : Nat) {x z : Int} (hd0 : decode cc pc = .ok (.lcmp, 1)) (hd : decode cc (pc + 1) = .ok (.ifCond .ne off, 3)) (hx : -9223372036854775808 ≤ x ∧ x < 9223372036854775808) (hy : -9223372036854775808 ≤ z ∧ z < 9223372036854775808) (kt : x ≠ z → Ev l y cc nL rt R E Z n0 tgt ls st n ce sl h) (kf : ¬ (x ≠ z) → Ev l y cc nL rt R E Z n0 (pc + 1 + 3) ls st n ce sl h) (ht : ((pc + 1 : Nat) : Int) + off = (tgt : Int) := by decide) : Ev l y cc nL rt R E Z n0 pc ls (vL z :: vL x :: st) n ce sl h :=
  ev_BRN (P := x ≠ z) (fun ad C hl kt kf => W.lcmp C.1 C.2.1 hd0 (lv_if_ne C.1 C.2.1 hd ht (fun q => kt (fun e => q (((lg_cmp_eq _ _).trans (pm_eq64 hx hy)).mpr e))) (fun q => kf (fun e => e (((lg_cmp_eq _ _).trans (pm_eq64 hx hy)).mp q))))) kt kf

theorem ev_if_lt {off : Int} (tgt : Nat) {x : Int} (hd : decode cc pc = .ok (.ifCond .lt off, 3)) (hx : -2147483648 ≤ x ∧ x < 2147483648) (kt : x < 0 → Ev l y cc nL rt R E Z n0 tgt ls st n ce sl h) (kf : ¬ (x < 0) → Ev l y cc nL rt R E Z n0 (pc + 3) ls st n ce sl h) (ht : (pc : Int) + off = (tgt : Int) := by decide) : Ev l y cc nL rt R E Z n0 pc ls (vI x :: st) n ce sl h :=
  ev_BRN (P := x < 0) (fun ad C hl kt kf => lv_if_lt C.1 C.2.1 hd ht (by rw [pm_o0]; exact (fun q => kt ((pm_lt32 hx pm_00).mp q))) (by rw [pm_o0]; exact (fun q => kf (fun e => q ((pm_lt32 hx pm_00).mpr e))))) kt kf

theorem ev_icmp_lt {off : Int} (tgt : Nat) {x z : Int} (hd : decode cc pc = .ok (.if_icmp .lt off, 3)) (hx : -2147483648 ≤ x ∧ x < 2147483648) (hy : -2147483648 ≤ z ∧ z < 2147483648) (kt : x < z → Ev l y cc nL rt R E Z n0 tgt ls st n ce sl h) (kf : ¬ (x < z) → Ev l y cc nL rt R E Z n0 (pc + 3) ls st n ce sl h) (ht : (pc : Int) + off = (tgt : Int) := by decide) : Ev l y cc nL rt R E Z n0 pc ls (vI z :: vI x :: st) n ce sl h :=
  ev_BRN (P := x < z) (fun ad C hl kt kf => lv_icmp_lt C.1 C.2.1 hd ht (fun q => kt ((pm_lt32 hx hy).mp q)) (fun q => kf (fun e => q ((pm_lt32 hx hy).mpr e)))) kt kf

theorem ev_lcmp_lt {off : Int} (tgt : Nat) {x z : Int} (hd0 : decode cc pc = .ok (.lcmp, 1)) (hd : decode cc (pc + 1) = .ok (.ifCond .lt off, 3)) (hx : -9223372036854775808 ≤ x ∧ x < 9223372036854775808) (hy : -9223372036854775808 ≤ z ∧ z < 9223372036854775808) (kt : x < z → Ev l y cc nL rt R E Z n0 tgt ls st n ce sl h) (kf : ¬ (x < z) → Ev l y cc nL rt R E Z n0 (pc + 1 + 3) ls st n ce sl h) (ht : ((pc + 1 : Nat) : Int) + off = (tgt : Int) := by decide) : Ev l y cc nL rt R E Z n0 pc ls (vL z :: vL x :: st) n ce sl h :=
  ev_BRN (P := x < z) (fun ad C hl kt kf => W.lcmp C.1 C.2.1 hd0 (lv_if_lt C.1 C.2.1 hd ht (fun q => kt (((lg_cmp_lt _ _).trans (pm_lt64 hx hy)).mp q)) (fun q => kf (fun e => q (((lg_cmp_lt _ _).trans (pm_lt64 hx hy)).mpr e))))) kt kf

theorem ev_if_ge {off : Int} (tgt : Nat) {x : Int} (hd : decode cc pc = .ok (.ifCond .ge off, 3)) (hx : -2147483648 ≤ x ∧ x < 2147483648) (kt : 0 ≤ x → Ev l y cc nL rt R E Z n0 tgt ls st n ce sl h) (kf : ¬ (0 ≤ x) → Ev l y cc nL rt R E Z n0 (pc + 3) ls st n ce sl h) (ht : (pc : Int) + off = (tgt : Int) := by decide) : Ev l y cc nL rt R E Z n0 pc ls (vI x :: st) n ce sl h :=
  ev_BRN (P := 0 ≤ x) (fun ad C hl kt kf => lv_if_ge C.1 C.2.1 hd ht (by rw [pm_o0]; exact (fun q => kt ((pm_le32 pm_00 hx).mp q))) (by rw [pm_o0]; exact (fun q => kf (fun e => q ((pm_le32 pm_00 hx).mpr e))))) kt kf

theorem ev_icmp_ge {off : Int} (tgt : Nat) {x z : Int} (hd : decode cc pc = .ok (.if_icmp .ge off, 3)) (hx : -2147483648 ≤ x ∧ x < 2147483648) (hy : -2147483648 ≤ z ∧ z < 2147483648) (kt : z ≤ x → Ev l y cc nL rt R E Z n0 tgt ls st n ce sl h) (kf : ¬ (z ≤ x) → Ev l y cc nL rt R E Z n0 (pc + 3) ls st n ce sl h) (ht : (pc : Int) + off = (tgt : Int) := by decide) : Ev l y cc nL rt R E Z n0 pc ls (vI z :: vI x :: st) n ce sl h :=
  ev_BRN (P := z ≤ x) (fun ad C hl kt kf => lv_icmp_ge C.1 C.2.1 hd ht (fun q => kt ((pm_le32 hy hx).mp q)) (fun q => kf (fun e => q ((pm_le32 hy hx).mpr e)))) kt kf

theorem ev_lcmp_ge {off : Int} (tgt : Nat) {x z : Int} (hd0 : decode cc pc = .ok (.lcmp, 1)) (hd : decode cc (pc + 1) = .ok (.ifCond .ge off, 3)) (hx : -9223372036854775808 ≤ x ∧ x < 9223372036854775808) (hy : -9223372036854775808 ≤ z ∧ z < 9223372036854775808) (kt : z ≤ x → Ev l y cc nL rt R E Z n0 tgt ls st n ce sl h) (kf : ¬ (z ≤ x) → Ev l y cc nL rt R E Z n0 (pc + 1 + 3) ls st n ce sl h) (ht : ((pc + 1 : Nat) : Int) + off = (tgt : Int) := by decide) : Ev l y cc nL rt R E Z n0 pc ls (vL z :: vL x :: st) n ce sl h :=
  ev_BRN (P := z ≤ x) (fun ad C hl kt kf => W.lcmp C.1 C.2.1 hd0 (lv_if_ge C.1 C.2.1 hd ht (fun q => kt (((lg_cmp_ge _ _).trans (pm_le64 hy hx)).mp q)) (fun q => kf (fun e => q (((lg_cmp_ge _ _).trans (pm_le64 hy hx)).mpr e))))) kt kf

theorem ev_if_gt {off : Int} (tgt : Nat) {x : Int} (hd : decode cc pc = .ok (.ifCond .gt off, 3)) (hx : -2147483648 ≤ x ∧ x < 2147483648) (kt : 0 < x → Ev l y cc nL rt R E Z n0 tgt ls st n ce sl h) (kf : ¬ (0 < x) → Ev l y cc nL rt R E Z n0 (pc + 3) ls st n ce sl h) (ht : (pc : Int) + off = (tgt : Int) := by decide) : Ev l y cc nL rt R E Z n0 pc ls (vI x :: st) n ce sl h :=
  ev_BRN (P := 0 < x) (fun ad C hl kt kf => lv_if_gt C.1 C.2.1 hd ht (by rw [pm_o0]; exact (fun q => kt ((pm_lt32 pm_00 hx).mp q))) (by rw [pm_o0]; exact (fun q => kf (fun e => q ((pm_lt32 pm_00 hx).mpr e))))) kt kf

theorem ev_icmp_gt {off : Int} (tgt : Nat) {x z : Int} (hd : decode cc pc = .ok (.if_icmp .gt off, 3)) (hx : -2147483648 ≤ x ∧ x < 2147483648) (hy : -2147483648 ≤ z ∧ z < 2147483648) (kt : z < x → Ev l y cc nL rt R E Z n0 tgt ls st n ce sl h) (kf : ¬ (z < x) → Ev l y cc nL rt R E Z n0 (pc + 3) ls st n ce sl h) (ht : (pc : Int) + off = (tgt : Int) := by decide) : Ev l y cc nL rt R E Z n0 pc ls (vI z :: vI x :: st) n ce sl h :=
  ev_BRN (P := z < x) (fun ad C hl kt kf => lv_icmp_gt C.1 C.2.1 hd ht (fun q => kt ((pm_lt32 hy hx).mp q)) (fun q => kf (fun e => q ((pm_lt32 hy hx).mpr e)))) kt kf

theorem ev_lcmp_gt {off : Int} (tgt : Nat) {x z : Int} (hd0 : decode cc pc = .ok (.lcmp, 1)) (hd : decode cc (pc + 1) = .ok (.ifCond .gt off, 3)) (hx : -9223372036854775808 ≤ x ∧ x < 9223372036854775808) (hy : -9223372036854775808 ≤ z ∧ z < 9223372036854775808) (kt : z < x → Ev l y cc nL rt R E Z n0 tgt ls st n ce sl h) (kf : ¬ (z < x) → Ev l y cc nL rt R E Z n0 (pc + 1 + 3) ls st n ce sl h) (ht : ((pc + 1 : Nat) : Int) + off = (tgt : Int) := by decide) : Ev l y cc nL rt R E Z n0 pc ls (vL z :: vL x :: st) n ce sl h :=
  ev_BRN (P := z < x) (fun ad C hl kt kf => W.lcmp C.1 C.2.1 hd0 (lv_if_gt C.1 C.2.1 hd ht (fun q => kt (((lg_cmp_gt _ _).trans (pm_lt64 hy hx)).mp q)) (fun q => kf (fun e => q (((lg_cmp_gt _ _).trans (pm_lt64 hy hx)).mpr e))))) kt kf

theorem ev_if_le {off : Int} (tgt : Nat) {x : Int} (hd : decode cc pc = .ok (.ifCond .le off, 3)) (hx : -2147483648 ≤ x ∧ x < 2147483648) (kt : x ≤ 0 → Ev l y cc nL rt R E Z n0 tgt ls st n ce sl h) (kf : ¬ (x ≤ 0) → Ev l y cc nL rt R E Z n0 (pc + 3) ls st n ce sl h) (ht : (pc : Int) + off = (tgt : Int) := by decide) : Ev l y cc nL rt R E Z n0 pc ls (vI x :: st) n ce sl h :=
  ev_BRN (P := x ≤ 0) (fun ad C hl kt kf => lv_if_le C.1 C.2.1 hd ht (by rw [pm_o0]; exact (fun q => kt ((pm_le32 hx pm_00).mp q))) (by rw [pm_o0]; exact (fun q => kf (fun e => q ((pm_le32 hx pm_00).mpr e))))) kt kf

theorem ev_icmp_le {off : Int} (tgt : Nat) {x z : Int} (hd : decode cc pc = .ok (.if_icmp .le off, 3)) (hx : -2147483648 ≤ x ∧ x < 2147483648) (hy : -2147483648 ≤ z ∧ z < 2147483648) (kt : x ≤ z → Ev l y cc nL rt R E Z n0 tgt ls st n ce sl h) (kf : ¬ (x ≤ z) → Ev l y cc nL rt R E Z n0 (pc + 3) ls st n ce sl h) (ht : (pc : Int) + off = (tgt : Int) := by decide) : Ev l y cc nL rt R E Z n0 pc ls (vI z :: vI x :: st) n ce sl h :=
  ev_BRN (P := x ≤ z) (fun ad C hl kt kf => lv_icmp_le C.1 C.2.1 hd ht (fun q => kt ((pm_le32 hx hy).mp q)) (fun q => kf (fun e => q ((pm_le32 hx hy).mpr e)))) kt kf

theorem ev_lcmp_le {off : Int} (tgt : Nat) {x z : Int} (hd0 : decode cc pc = .ok (.lcmp, 1)) (hd : decode cc (pc + 1) = .ok (.ifCond .le off, 3)) (hx : -9223372036854775808 ≤ x ∧ x < 9223372036854775808) (hy : -9223372036854775808 ≤ z ∧ z < 9223372036854775808) (kt : x ≤ z → Ev l y cc nL rt R E Z n0 tgt ls st n ce sl h) (kf : ¬ (x ≤ z) → Ev l y cc nL rt R E Z n0 (pc + 1 + 3) ls st n ce sl h) (ht : ((pc + 1 : Nat) : Int) + off = (tgt : Int) := by decide) : Ev l y cc nL rt R E Z n0 pc ls (vL z :: vL x :: st) n ce sl h :=
  ev_BRN (P := x ≤ z) (fun ad C hl kt kf => W.lcmp C.1 C.2.1 hd0 (lv_if_le C.1 C.2.1 hd ht (fun q => kt (((lg_cmp_le _ _).trans (pm_le64 hx hy)).mp q)) (fun q => kf (fun e => q (((lg_cmp_le _ _).trans (pm_le64 hx hy)).mpr e))))) kt kf

end EV
