/-! THE MEMORY after the constructors: cell k's field or place j holds M k j; references never change -/
abbrev Mem : Type := Nat → Nat → Int
abbrev FT : Type := Nat ⊕ Nat
abbrev LT : Type := (Nat × Nat) ⊕ (Nat × Nat × (Nat → Option Nat)) ⊕ (Nat × List FT)
def pvt (t : Nat) (x : Int) : PV := if t = 1 then vL x else vI x
def flds (m : Nat → Int) : Nat → List FT → List PV
  | _, [] => []
  | i, Sum.inl t :: r => pvt t (m i) :: flds m (i + 1) r
  | i, Sum.inr q :: r => vR q :: flds m (i + 1) r
abbrev lTrk (k : Nat) : LT := .inr (.inr (4, [.inl 0, .inl 0, .inl 0, .inl 0, .inl 0, .inl 0, .inl 2, .inr (k + 1)]))
abbrev lFrc : LT := .inr (.inr (2, [.inl 1, .inl 1]))
def lay (k : Nat) : LT :=
  if k = 0 then .inr (.inr (5, [.inr 1, .inr 18, .inr 19, .inr 50, .inr 52, .inl 0, .inl 2]))
  else if k = 1 then .inr (.inl (0, 8, fun i => if i < 8 then some (2 + 2 * i) else none))
  else if k < 18 then (if k % 2 = 0 then lTrk k else .inl (0, 9))
  else if k = 18 then .inr (.inr (1, [.inl 2, .inl 1, .inl 1, .inl 1]))
  else if k = 19 then .inr (.inr (0, [.inr 20, .inl 0, .inl 0, .inl 0, .inl 1, .inr 29, .inr 38, .inr 39, .inr 40, .inr 49, .inl 1, .inl 1]))
  else if k = 20 then .inr (.inl (1, 8, fun i => if i < 8 then some (21 + i) else none))
  else if k < 29 then lFrc
  else if k = 29 then .inr (.inl (2, 8, fun i => if i < 8 then some (30 + i) else none))
  else if k < 40 then .inl (0, 8)
  else if k = 40 then .inr (.inl (3, 8, fun i => if i < 8 then some (41 + i) else none))
  else if k < 50 then .inl (1, 8)
  else if k = 50 then .inr (.inr (3, [.inr 51, .inl 0]))
  else if k = 51 then .inl (0, 6)
  else if k = 52 then lFrc
  else if k = 53 then .inr (.inr (6, [.inl 0, .inr 54, .inr 55, .inr 56, .inl 0, .inr 57, .inl 1, .inl 1, .inl 1, .inl 1, .inl 1, .inr 58, .inr 59, .inr 60, .inr 61, .inr 62, .inl 1, .inl 1]))
  else if k = 54 then .inl (0, 48)
  else if k = 55 then .inl (0, 72)
  else if k = 56 then .inl (2, 8)
  else if k = 57 then .inl (0, 6)
  else if k = 58 then .inl (0, 8)
  else if k = 59 then .inl (0, 8)
  else if k = 60 then .inl (1, 64)
  else .inl (1, 8)
def hp (M : Mem) : HP := fun k => match lay k with
  | Sum.inl (t, n) => Sum.inl (t, n, M k)
  | Sum.inr (Sum.inl (t, n, f)) => kQ t n f
  | Sum.inr (Sum.inr (c, ts)) => kO c (flds (M k) 0 ts)
theorem lay_trk {i : Nat} (h : i < 8) : lay (2 + 2 * i) = lTrk (2 + 2 * i) := by
  unfold lay
  rw [if_neg (by omega), if_neg (by omega), if_pos (by omega), if_pos (by omega)]
theorem lay_hts {i : Nat} (h : i < 8) : lay (2 + 2 * i + 1) = .inl (0, 9) := by
  unfold lay
  rw [if_neg (by omega), if_neg (by omega), if_pos (by omega), if_neg (by omega)]
theorem lay_frc {i : Nat} (h : i < 8) : lay (21 + i) = lFrc := by
  unfold lay
  rw [if_neg (by omega), if_neg (by omega), if_neg (by omega), if_neg (by omega), if_neg (by omega), if_neg (by omega), if_pos (by omega)]
theorem lay_dif {i : Nat} (h : i < 8) : lay (30 + i) = .inl (0, 8) := by
  unfold lay
  rw [if_neg (by omega), if_neg (by omega), if_neg (by omega), if_neg (by omega), if_neg (by omega), if_neg (by omega), if_neg (by omega), if_neg (by omega), if_pos (by omega)]
theorem lay_row {i : Nat} (h : i < 8) : lay (41 + i) = .inl (1, 8) := by
  unfold lay
  rw [if_neg (by omega), if_neg (by omega), if_neg (by omega), if_neg (by omega), if_neg (by omega), if_neg (by omega), if_neg (by omega), if_neg (by omega), if_neg (by omega), if_neg (by omega), if_pos (by omega)]
theorem hp_obj {M : Mem} {k c : Nat} {ts : List FT} (h : lay k = .inr (.inr (c, ts))) : hp M k = kO c (flds (M k) 0 ts) := by unfold hp; rw [h]
theorem hp_arr {M : Mem} {k t n : Nat} (h : lay k = .inl (t, n)) : hp M k = Sum.inl (t, n, M k) := by unfold hp; rw [h]
theorem hp_ref {M : Mem} {k t n : Nat} {f : Nat → Option Nat} (h : lay k = .inr (.inl (t, n, f))) : hp M k = kQ t n f := by unfold hp; rw [h]
theorem flds_get (m : Nat → Int) : ∀ (ts : List FT) (i k : Nat), (flds m i ts)[k]? = (ts[k]?).map (fun t => match t with | Sum.inl t => pvt t (m (i + k)) | Sum.inr q => vR q)
  | [], i, k => by simp [flds]
  | Sum.inl t :: r, i, 0 => rfl
  | Sum.inr q :: r, i, 0 => rfl
  | Sum.inl t :: r, i, k + 1 => by
    have := flds_get m r (i + 1) k
    rw [show i + (k + 1) = i + 1 + k by omega]
    exact this
  | Sum.inr q :: r, i, k + 1 => by
    have := flds_get m r (i + 1) k
    rw [show i + (k + 1) = i + 1 + k by omega]
    exact this
theorem flds_len (m : Nat → Int) : ∀ (ts : List FT) (i : Nat), (flds m i ts).length = ts.length
  | [], _ => rfl
  | Sum.inl t :: r, i => by simp [flds, flds_len m r]
  | Sum.inr q :: r, i => by simp [flds, flds_len m r]
theorem flds_keep (m : Nat → Int) (j : Nat) (x : Int) : ∀ (ts : List FT) (i : Nat), j < i → flds (va_up m j x) i ts = flds m i ts
  | [], _, _ => rfl
  | Sum.inl t :: r, i, h => by simp only [flds]; rw [flds_keep m j x r (i + 1) (by omega), va_up_ne _ _ (by omega)]
  | Sum.inr q :: r, i, h => by simp only [flds]; rw [flds_keep m j x r (i + 1) (by omega)]
theorem flds_set (m : Nat → Int) (x : Int) {t : Nat} : ∀ (ts : List FT) (i k : Nat), ts[k]? = some (.inl t) → (flds m i ts).set k (pvt t x) = flds (va_up m (i + k) x) i ts
  | [], i, k, h => by simp at h
  | Sum.inl t' :: r, i, 0, h => by
    cases h
    simp only [flds, List.set, Nat.add_zero]
    rw [flds_keep m i x r (i + 1) (by omega), va_up_self]
  | Sum.inr q :: r, i, 0, h => by cases h
  | Sum.inl t' :: r, i, k + 1, h => by
    have := flds_set m x r (i + 1) k h
    simp only [flds, List.set]
    rw [this, show i + (k + 1) = i + 1 + k by omega, va_up_ne _ _ (by omega)]
  | Sum.inr q :: r, i, k + 1, h => by
    have := flds_set m x r (i + 1) k h
    simp only [flds, List.set]
    rw [this, show i + (k + 1) = i + 1 + k by omega]
def up2 (M : Mem) (r k : Nat) (x : Int) : Mem := va_up M r (va_up (M r) k x)
theorem up2_at (M : Mem) (r k : Nat) (x : Int) (a b : Nat) : up2 M r k x a b = if a = r ∧ b = k then x else M a b := by
  unfold up2
  by_cases h : a = r
  · subst h
    rw [va_up_self]
    by_cases h2 : b = k
    · subst h2; rw [va_up_self]; simp
    · rw [va_up_ne _ _ h2]; simp [h2]
  · rw [va_up_ne _ _ h]; simp [h]
theorem up2_row (M : Mem) (r k : Nat) (x : Int) {a : Nat} (h : a ≠ r) : up2 M r k x a = M a := by unfold up2; rw [va_up_ne _ _ h]
theorem up2_same (M : Mem) (r k : Nat) (x : Int) : up2 M r k x r k = x := by rw [up2_at]; simp
theorem up2_ne (M : Mem) (r k : Nat) (x : Int) {a b : Nat} (h : a ≠ r ∨ b ≠ k) : up2 M r k x a b = M a b := by
  rw [up2_at, if_neg]
  omega
theorem hp_up {M : Mem} {r k : Nat} {x : Int} {c : PK} (hc : hp (up2 M r k x) r = c) : va_up (hp M) r c = hp (up2 M r k x) := by
  funext j
  by_cases h : j = r
  · subst h; rw [va_up_self, hc]
  · rw [va_up_ne _ _ h]
    unfold hp
    rw [up2_row _ _ _ _ h]
abbrev QM : Type := Option PV → Mem → Prop
def qN (Q : QM) : Option PV → Nat → HP → Prop := fun r n' h' => n' = 63 ∧ ∃ M', (∀ k, k < 63 → h' k = hp M' k) ∧ Q r M'
abbrev rmm (fr lo : Nat) : Room := { frames := fr, cells := 0, slots := 0, locals := lo }
abbrev Em (l : Launch) (y : MethodName) (cc : ByteArray) (nL : Nat) (rt : Option FieldType) (fr lo : Nat) (Q : QM) (pc : Nat) (ls : List (Option PV)) (st : List PV) (M : Mem) : Prop := Ev l y cc nL rt (rmm fr lo) eT (zM (qN Q) 63 0 0) 63 pc ls st 63 0 0 (hp M)
def Cm (l : Launch) (y : MethodName) (cc : ByteArray) (nL : Nat) (rt : Option FieldType) (fr lo : Nat) (av : List PV) (M : Mem) (Q : QM) : Prop := Con l y cc nL rt fr lo 0 0 av 63 (hp M) (qN Q)
theorem cm_of {l : Launch} {y : MethodName} {cc : ByteArray} {nL : Nat} {rt : Option FieldType} {fr lo : Nat} {av : List PV} {M : Mem} {Q : QM} (ls : List (Option PV)) (k : Em l y cc nL rt fr lo Q 0 ls [] M) (hpl : plainName y.cls = true := by decide +kernel) (hlen : (enl av).length ≤ nL := by decide) (hls : enl av ++ List.replicate (nL - (enl av).length) none = ls := by rfl) : Cm l y cc nL rt fr lo av M Q :=
  con_of ls hpl hlen hls k
theorem cm_imp {l : Launch} {y : MethodName} {cc : ByteArray} {nL : Nat} {rt : Option FieldType} {fr lo : Nat} {av : List PV} {M : Mem} {Q Q' : QM} (hq : ∀ r M', Q r M' → Q' r M') (h : Cm l y cc nL rt fr lo av M Q) : Cm l y cc nL rt fr lo av M Q' := by
  intro D dA ad sz
  have := h D dA ad sz
  intro p e a1 a2 a3 s m args below b1 b2 b3 b4
  obtain ⟨t, o, c1, c2, c3, c4, c5⟩ := this p e a1 a2 a3 s m args below b1 b2 b3 b4
  refine ⟨t, o, c1, c2, c3, ?_, c5⟩
  obtain ⟨⟨r, n', h', ad', d1, ⟨d2, M', d3, d4⟩, d5⟩, d6⟩ := c4
  exact ⟨⟨r, n', h', ad', d1, ⟨d2, M', d3, hq r M' d4⟩, d5⟩, d6⟩
section EM
variable {l : Launch} {y : MethodName} {cc : ByteArray} {nL : Nat} {rt : Option FieldType} {R : Room} {E : EE} {Z : ZZ} {n0 pc : Nat} {ls : List (Option PV)} {st : List PV} {ce sl : Nat} {M : Mem}
theorem em_getI {idx ci k : Nat} (hf : FG y.cls idx ci k) (hd : decode cc pc = .ok (.getfield idx, 3)) {r t : Nat} {ts : List FT} (hl : lay r = .inr (.inr (ci, ts))) (hk : ts[k]? = some (.inl t)) (kk : Ev l y cc nL rt R E Z n0 (pc + 3) ls (vI (M r k) :: st) 63 ce sl (hp M)) (ht : t ≠ 1 := by decide) (hr : r < 63 := by omega) : Ev l y cc nL rt R E Z n0 pc ls (vR r :: st) 63 ce sl (hp M) :=
  ev_get hf hd hr (hp_obj hl) (v := vI (M r k)) (by rw [flds_get, hk, Nat.zero_add]; simp [pvt, ht]) kk
theorem em_getL {idx ci k : Nat} (hf : FG y.cls idx ci k) (hd : decode cc pc = .ok (.getfield idx, 3)) {r : Nat} {ts : List FT} (hl : lay r = .inr (.inr (ci, ts))) (hk : ts[k]? = some (.inl 1)) (kk : Ev l y cc nL rt R E Z n0 (pc + 3) ls (vL (M r k) :: st) 63 ce sl (hp M)) (hr : r < 63 := by omega) : Ev l y cc nL rt R E Z n0 pc ls (vR r :: st) 63 ce sl (hp M) :=
  ev_get hf hd hr (hp_obj hl) (v := vL (M r k)) (by rw [flds_get, hk, Nat.zero_add]; rfl) kk
theorem em_getR {idx ci k : Nat} (hf : FG y.cls idx ci k) (hd : decode cc pc = .ok (.getfield idx, 3)) {r q : Nat} {ts : List FT} (hl : lay r = .inr (.inr (ci, ts))) (hk : ts[k]? = some (.inr q)) (kk : Ev l y cc nL rt R E Z n0 (pc + 3) ls (vR q :: st) 63 ce sl (hp M)) (hr : r < 63 := by omega) : Ev l y cc nL rt R E Z n0 pc ls (vR r :: st) 63 ce sl (hp M) :=
  ev_get hf hd hr (hp_obj hl) (v := vR q) (by rw [flds_get, hk]; rfl) kk
theorem em_put {idx ci k : Nat} {ty : FieldType} (hf : FL y.cls idx ci k ty false) (hd : decode cc pc = .ok (.putfield idx, 3)) {r t : Nat} {ts : List FT} {x : Int} {v : PV} (hl : lay r = .inr (.inr (ci, ts))) (hk : ts[k]? = some (.inl t)) (hx : pvt t x = v) (hv : okT ty v) (kk : Ev l y cc nL rt R E Z n0 (pc + 3) ls st 63 ce sl (hp (up2 M r k x))) (hr : r < 63 := by omega) : Ev l y cc nL rt R E Z n0 pc ls (v :: vR r :: st) 63 ce sl (hp M) := by
  refine ev_put hf hd hr (hp_obj hl) hv (by rw [flds_len]; exact (List.getElem?_eq_some_iff.mp hk).1) ?_
  rw [hp_up (k := k) (x := x)]
  · exact kk
  · rw [hp_obj hl, ← hx, flds_set _ _ _ _ _ hk, Nat.zero_add]
    congr 1
    unfold up2
    rw [va_up_self]
theorem em_putI {idx ci k : Nat} (hf : FL y.cls idx ci k .int false) (hd : decode cc pc = .ok (.putfield idx, 3)) {r t : Nat} {ts : List FT} {x : Int} (hl : lay r = .inr (.inr (ci, ts))) (hk : ts[k]? = some (.inl t)) (kk : Ev l y cc nL rt R E Z n0 (pc + 3) ls st 63 ce sl (hp (up2 M r k x))) (ht : t ≠ 1 := by decide) (hr : r < 63 := by omega) : Ev l y cc nL rt R E Z n0 pc ls (vI x :: vR r :: st) 63 ce sl (hp M) :=
  em_put hf hd hl hk (by simp [pvt, ht]) (okT_I x) kk hr
theorem em_putZ {idx ci k : Nat} (hf : FL y.cls idx ci k .boolean false) (hd : decode cc pc = .ok (.putfield idx, 3)) {r t : Nat} {ts : List FT} {x : Int} (hl : lay r = .inr (.inr (ci, ts))) (hk : ts[k]? = some (.inl t)) (hx : x = 0 ∨ x = 1) (kk : Ev l y cc nL rt R E Z n0 (pc + 3) ls st 63 ce sl (hp (up2 M r k x))) (ht : t ≠ 1 := by decide) (hr : r < 63 := by omega) : Ev l y cc nL rt R E Z n0 pc ls (vI x :: vR r :: st) 63 ce sl (hp M) :=
  em_put hf hd hl hk (by simp [pvt, ht]) (okT_Z hx) kk hr
theorem em_putL {idx ci k : Nat} (hf : FL y.cls idx ci k .long false) (hd : decode cc pc = .ok (.putfield idx, 3)) {r : Nat} {ts : List FT} {x : Int} (hl : lay r = .inr (.inr (ci, ts))) (hk : ts[k]? = some (.inl 1)) (kk : Ev l y cc nL rt R E Z n0 (pc + 3) ls st 63 ce sl (hp (up2 M r k x))) (hr : r < 63 := by omega) : Ev l y cc nL rt R E Z n0 pc ls (vL x :: vR r :: st) 63 ce sl (hp M) :=
  em_put hf hd hl hk rfl (okT_L x) kk hr
theorem em_iald (hd : decode cc pc = .ok (.iaload, 1)) {r m : Nat} {z : Int} (hl : lay r = .inl (0, m)) (hz : 0 ≤ z ∧ z < (m : Int)) (kk : Ev l y cc nL rt R E Z n0 (pc + 1) ls (vI (M r z.toNat) :: st) 63 ce sl (hp M)) (hm : m < 2147483648 := by decide) (hr : r < 63 := by omega) : Ev l y cc nL rt R E Z n0 pc ls (vI z :: vR r :: st) 63 ce sl (hp M) :=
  ev_iald hd hr (hp_arr hl) hz kk hm
theorem em_zald (hd : decode cc pc = .ok (.baload, 1)) {r m : Nat} {z : Int} (hl : lay r = .inl (2, m)) (hz : 0 ≤ z ∧ z < (m : Int)) (kk : Ev l y cc nL rt R E Z n0 (pc + 1) ls (vI (M r z.toNat) :: st) 63 ce sl (hp M)) (hm : m < 2147483648 := by decide) (hr : r < 63 := by omega) : Ev l y cc nL rt R E Z n0 pc ls (vI z :: vR r :: st) 63 ce sl (hp M) :=
  ev_zald hd hr (hp_arr hl) hz kk hm
theorem em_lald (hd : decode cc pc = .ok (.laload, 1)) {r m : Nat} {z : Int} (hl : lay r = .inl (1, m)) (hz : 0 ≤ z ∧ z < (m : Int)) (kk : Ev l y cc nL rt R E Z n0 (pc + 1) ls (vL (M r z.toNat) :: st) 63 ce sl (hp M)) (hm : m < 2147483648 := by decide) (hr : r < 63 := by omega) : Ev l y cc nL rt R E Z n0 pc ls (vI z :: vR r :: st) 63 ce sl (hp M) :=
  ev_lald hd hr (hp_arr hl) hz kk hm
theorem em_aald (hd : decode cc pc = .ok (.aaload, 1)) {r t m j : Nat} {f : Nat → Option Nat} {z : Int} (hl : lay r = .inr (.inl (t, m, f))) (hz : 0 ≤ z ∧ z < (m : Int)) (hj : f z.toNat = some j) (kk : Ev l y cc nL rt R E Z n0 (pc + 1) ls (vR j :: st) 63 ce sl (hp M)) (hm : m < 2147483648 := by decide) (ht : t < 4 := by decide) (hr : r < 63 := by omega) : Ev l y cc nL rt R E Z n0 pc ls (vI z :: vR r :: st) 63 ce sl (hp M) :=
  ev_aald hd hr (hp_ref hl) hz hj kk hm ht
theorem hp_upA {M : Mem} {r t m k : Nat} {x : Int} (hl : lay r = .inl (t, m)) : va_up (hp M) r (Sum.inl (t, m, va_up (M r) k x)) = hp (up2 M r k x) := by
  refine hp_up ?_
  rw [hp_arr hl]
  unfold up2
  rw [va_up_self]
theorem em_iast (hd : decode cc pc = .ok (.iastore, 1)) {r m : Nat} {z x : Int} (hl : lay r = .inl (0, m)) (hz : 0 ≤ z ∧ z < (m : Int)) (kk : Ev l y cc nL rt R E Z n0 (pc + 1) ls st 63 ce sl (hp (up2 M r z.toNat x))) (hm : m < 2147483648 := by decide) (hr : r < 63 := by omega) : Ev l y cc nL rt R E Z n0 pc ls (vI x :: vI z :: vR r :: st) 63 ce sl (hp M) :=
  ev_iast hd hr (hp_arr hl) hz (by rw [hp_upA hl]; exact kk) hm
theorem em_last (hd : decode cc pc = .ok (.lastore, 1)) {r m : Nat} {z x : Int} (hl : lay r = .inl (1, m)) (hz : 0 ≤ z ∧ z < (m : Int)) (kk : Ev l y cc nL rt R E Z n0 (pc + 1) ls st 63 ce sl (hp (up2 M r z.toNat x))) (hm : m < 2147483648 := by decide) (hr : r < 63 := by omega) : Ev l y cc nL rt R E Z n0 pc ls (vL x :: vI z :: vR r :: st) 63 ce sl (hp M) :=
  ev_last hd hr (hp_arr hl) hz (by rw [hp_upA hl]; exact kk) hm
theorem em_zast (hd : decode cc pc = .ok (.bastore, 1)) {r m : Nat} {z x : Int} (hl : lay r = .inl (2, m)) (hz : 0 ≤ z ∧ z < (m : Int)) (hx : x = 0 ∨ x = 1) (kk : Ev l y cc nL rt R E Z n0 (pc + 1) ls st 63 ce sl (hp (up2 M r z.toNat x))) (hm : m < 2147483648 := by decide) (hr : r < 63 := by omega) : Ev l y cc nL rt R E Z n0 pc ls (vI x :: vI z :: vR r :: st) 63 ce sl (hp M) :=
  ev_zast hd hr (hp_arr hl) hz hx (by rw [hp_upA hl]; exact kk) hm
theorem em_callS {idx : Nat} {z : MethodName} {cz : ByteArray} {nz : Nat} {rz : Option FieldType} {np fr lo : Nat} {stk : List PV} {Qz : QM} (av st : List PV) (hcon : Cm l z cz nz rz fr lo av M Qz) (hm : MS y.cls idx z cz nz rz np) (hd : decode cc pc = .ok (.invokestatic idx, 3))
    (kk : ∀ r M', Qz r M' → Ev l y cc nL rt R E Z n0 (pc + 3) ls (r.toList ++ st) 63 ce sl (hp M')) (hR : fr + 1 ≤ R.frames ∧ 8 + (nz + 11) + lo ≤ R.locals := by decide) (hcs : ce ≤ R.cells ∧ sl ≤ R.slots := by decide) (hst : stk = av.reverse ++ st := by rfl) (hnp : av.length = np := by rfl) (hcat : (st.map pcat).sum ≤ 8 := by simp [pcat]) : Ev l y cc nL rt R E Z n0 pc ls stk 63 ce sl (hp M) :=
  ev_callS hcon hm hd hst hnp hcat hR hcs (fun r n' h' q => q.1) (fun r h' q => by
    obtain ⟨-, M', h1, h2⟩ := q
    exact ev_congr h1 (kk r M' h2))
theorem em_callV {idx ci b : Nat} {z : MethodName} {cz : ByteArray} {nz : Nat} {rz : Option FieldType} {np fr lo : Nat} {stk : List PV} {ts : List FT} {Qz : QM} (as st : List PV) (hcon : Cm l z cz nz rz fr lo (vR b :: as) M Qz) (hm : MV y.cls idx ci z cz nz rz np) (hd : decode cc pc = .ok (.invokevirtual idx, 3)) (hl : lay b = .inr (.inr (ci, ts)))
    (kk : ∀ r M', Qz r M' → Ev l y cc nL rt R E Z n0 (pc + 3) ls (r.toList ++ st) 63 ce sl (hp M')) (hR : fr + 1 ≤ R.frames ∧ 8 + (nz + 11) + lo ≤ R.locals := by decide) (hcs : ce ≤ R.cells ∧ sl ≤ R.slots := by decide) (hb : b < 63 := by omega) (hst : stk = as.reverse ++ vR b :: st := by rfl) (hnp : as.length = np := by rfl) (hcat : (st.map pcat).sum ≤ 8 := by simp [pcat]) : Ev l y cc nL rt R E Z n0 pc ls stk 63 ce sl (hp M) :=
  ev_callV hcon hm hd hst hb (hp_obj hl) hnp hcat hR hcs (fun r n' h' q => q.1) (fun r h' q => by
    obtain ⟨-, M', h1, h2⟩ := q
    exact ev_congr h1 (kk r M' h2))
theorem em_iret {fr lo : Nat} {Q : QM} {x : Int} (hd : decode cc pc = .ok (.ireturn, 1)) (hq : Q (some (vI x)) M) : Em l y cc nL (some .int) fr lo Q pc ls [vI x] M :=
  ev_iret rfl hd ⟨rfl, M, fun _ _ => rfl, hq⟩ (Nat.le_refl _) (Nat.le_refl _)
theorem em_zret {fr lo : Nat} {Q : QM} {x : Int} (hd : decode cc pc = .ok (.ireturn, 1)) (hx : x = 0 ∨ x = 1) (hq : Q (some (vI x)) M) : Em l y cc nL (some .boolean) fr lo Q pc ls [vI x] M :=
  ev_zret rfl hx hd ⟨rfl, M, fun _ _ => rfl, hq⟩ (Nat.le_refl _) (Nat.le_refl _)
theorem em_lret {fr lo : Nat} {Q : QM} {x : Int} (hd : decode cc pc = .ok (.lreturn, 1)) (hq : Q (some (vL x)) M) : Em l y cc nL (some .long) fr lo Q pc ls [vL x] M :=
  ev_lret rfl hd ⟨rfl, M, fun _ _ => rfl, hq⟩ (Nat.le_refl _) (Nat.le_refl _)
theorem em_vret {fr lo : Nat} {Q : QM} (hd : decode cc pc = .ok (.return_, 1)) (hq : Q none M) : Em l y cc nL none fr lo Q pc ls [] M :=
  ev_vret rfl hd ⟨rfl, M, fun _ _ => rfl, hq⟩ (Nat.le_refl _) (Nat.le_refl _)
end EM
