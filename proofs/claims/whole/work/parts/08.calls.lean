/-! contracts and calls -/
def pm_Q (Q : Option PV → Nat → HP → Prop) (D : va_G) (dA : Nat → ClassId) (ad0 : Nat → Nat) (n0 : Nat) (A : Nat → Prop) : Array Value → State → Outcome → State → Prop := fun _ st o t =>
  (∃ (r : Option PV) (n' : Nat) (h' : HP) (ad' : Nat → Nat), o = .returned (r.map (pm_v ad')) ∧ Q r n' h' ∧ n0 ≤ n' ∧ (∀ k, k < n0 → ad' k = ad0 k) ∧ (n' = n0 → ad' = ad0) ∧ va_P D vwCl (pm_w dA ad' n' h') t.heap ∧ pm_K D dA t ∧ va_D A (pm_w dA ad' n' h')) ∧ va_F A st t
def zM (Q : Option PV → Nat → HP → Prop) (n0 mc ms : Nat) : ZZ := fun below args s D dA ad0 A => MQ below (pm_Q Q D dA ad0 n0 A) args s mc ms A
abbrev eT : EE := fun _ _ => True
def Con (l : Launch) (y : MethodName) (cc : ByteArray) (nL : Nat) (rt : Option FieldType) (fr lo mc ms : Nat) (av : List PV) (n : Nat) (h : HP) (Q : Option PV → Nat → HP → Prop) : Prop :=
  ∀ (D : va_G) (dA : Nat → ClassId) (ad : Nat → Nat) (sz : Nat), Met l y (.code y cc nL rt :: tbw) { frames := fr, cells := mc, slots := ms, locals := lo } (va_Pc (av.map (pm_v ad)) (fun U => U.heap.size = sz ∧ va_P D vwCl (pm_w dA ad n h) U.heap ∧ pm_K D dA U ∧ va_D (fun _ => True) (pm_w dA ad n h))) (pm_Q Q D dA ad n (va_A (pm_w dA ad n h) sz)) mc ms (va_A (pm_w dA ad n h) sz)
def enl : List PV → List (Option PV)
  | [] => []
  | Sum.inr (Sum.inl z) :: r => some (vL z) :: none :: enl r
  | Sum.inl z :: r => some (vI z) :: enl r
  | Sum.inr (Sum.inr q) :: r => some (vQ q) :: enl r
theorem lk_rep : ∀ (k j : Nat) (v : PV), lk (List.replicate k none) j ≠ some v
  | 0, j, v, h => by simp [lk] at h
  | k + 1, 0, v, h => by simp [List.replicate, lk] at h
  | k + 1, j + 1, v, h => lk_rep k j v h
theorem enl_args {ad : Nat → Nat} {k : Nat} : ∀ (av : List PV) (i j : Nat) (v : PV), lk (enl av ++ List.replicate k none) j = some v → (i + j, pm_v ad v) ∈ lv_args i (av.map (pm_v ad))
  | [], i, j, v, h => absurd h (lk_rep k j v)
  | Sum.inl z :: r, i, 0, v, h => by cases h; exact List.mem_cons_self
  | Sum.inl z :: r, i, j + 1, v, h => by
    have := enl_args (ad := ad) r (i + 1) j v h
    rw [show i + (j + 1) = i + 1 + j by omega]
    exact List.mem_cons_of_mem _ this
  | Sum.inr (Sum.inr q) :: r, i, 0, v, h => by cases h; exact List.mem_cons_self
  | Sum.inr (Sum.inr q) :: r, i, j + 1, v, h => by
    have := enl_args (ad := ad) r (i + 1) j v h
    rw [show i + (j + 1) = i + 1 + j by omega]
    cases q <;> exact List.mem_cons_of_mem _ this
  | Sum.inr (Sum.inl z) :: r, i, 0, v, h => by cases h; exact List.mem_cons_self
  | Sum.inr (Sum.inl z) :: r, i, 1, v, h => by cases h
  | Sum.inr (Sum.inl z) :: r, i, j + 2, v, h => by
    have := enl_args (ad := ad) r (i + 2) j v h
    rw [show i + (j + 2) = i + 2 + j by omega]
    exact List.mem_cons_of_mem _ this
theorem enl_len {ad : Nat → Nat} : ∀ (av : List PV), (lg_sl (av.map (pm_v ad))).length = (enl av).length
  | [] => rfl
  | Sum.inl z :: r => by
    have := enl_len (ad := ad) r
    simp only [lg_sl, enl, List.map_cons, List.flatMap_cons, List.length_append, List.length_cons] at this ⊢
    rw [this]; simp [pm_v, Value.category]; omega
  | Sum.inr (Sum.inl z) :: r => by
    have := enl_len (ad := ad) r
    simp only [lg_sl, enl, List.map_cons, List.flatMap_cons, List.length_append, List.length_cons] at this ⊢
    rw [this]; simp [pm_v, Value.category]; omega
  | Sum.inr (Sum.inr none) :: r => by
    have := enl_len (ad := ad) r
    simp only [lg_sl, enl, List.map_cons, List.flatMap_cons, List.length_append, List.length_cons] at this ⊢
    rw [this]; simp [pm_v, va_rf, Value.category]; omega
  | Sum.inr (Sum.inr (some q)) :: r => by
    have := enl_len (ad := ad) r
    simp only [lg_sl, enl, List.map_cons, List.flatMap_cons, List.length_append, List.length_cons] at this ⊢
    rw [this]; simp [pm_v, va_rf, Value.category]; omega
theorem con_of {l : Launch} {y : MethodName} {cc : ByteArray} {nL : Nat} {rt : Option FieldType} {fr lo mc ms : Nat} {av : List PV} {n : Nat} {h : HP} {Q : Option PV → Nat → HP → Prop} (ls : List (Option PV)) (hpl : plainName y.cls = true) (hlen : (enl av).length ≤ nL) (hls : enl av ++ List.replicate (nL - (enl av).length) none = ls)
    (k : Ev l y cc nL rt { frames := fr, cells := mc, slots := ms, locals := lo } eT (zM Q n mc ms) n 0 ls [] n 0 0 h) : Con l y cc nL rt fr lo mc ms av n h Q := by
  intro D dA ad sz
  refine Met.ofW (cc := cc) (maxL := nL) (ret := rt) hpl rfl ?_
  intro p e s m args below meth c s₁ B hml hv
  obtain ⟨rfl, hsz, hP, hK, hD0⟩ := hv
  subst hsz
  have hts : ∀ w ∈ tbw, w.before (av.map (pm_v ad)).toArray s = true := fun w hw => atoms_spec (ws := .code y cc nL rt :: tbw) B.pre w (List.mem_cons_of_mem _ hw)
  have C : Cx y cc nL rt p s m (av.map (pm_v ad)).toArray meth c := ⟨B.exec, B.bytes, B.returns, hml, findClass_of_methodNamed B.named, hts, B.notSynchronized, (name_of_methodNamed B.named B.method).1⟩
  rw [lg_entry_eq]
  have he := lv_entry (av.map (pm_v ad)) (n := nL) (by rw [enl_len]; exact hlen)
  subst hls
  exact k p e s m _ below meth c C D dA ad ad _ s.heap [] _ trivial (Nat.le_refl _) (fun _ _ => rfl) (fun _ => rfl) hK hP hD0.self va_S.rf (fun q h => Or.inr h) ⟨he.1, he.2.1, fun i v hi => he.2.2 (i, pm_v ad v) (by have := enl_args (ad := ad) av 0 i v hi; rwa [Nat.zero_add] at this)⟩
def MB (own : String) (idx : Nat) (z : MethodName) (cz : ByteArray) (nz : Nat) (rz : Option FieldType) (np : Nat) : Prop := Cond.methodLink own idx z ∈ tbw ∧ Cond.initialized z.cls ∈ tbw ∧ Cond.code z cz nz rz ∈ tbw ∧ z.cls ≠ "java/lang/invoke/MethodHandle" ∧ z.cls ≠ "java/lang/invoke/VarHandle" ∧ (parseMethodDescriptor z.desc).map (fun d => d.parameters.length) = some np
def MS (own : String) (idx : Nat) (z : MethodName) (cz : ByteArray) (nz : Nat) (rz : Option FieldType) (np : Nat) : Prop := MB own idx z cz nz rz np ∧ Cond.static z ∈ tbw
def MV (own : String) (idx ci : Nat) (z : MethodName) (cz : ByteArray) (nz : Nat) (rz : Option FieldType) (np : Nat) : Prop := MB own idx z cz nz rz np ∧ Cond.instanceMethod z ∈ tbw ∧ Cond.selects z.cls z z ∈ tbw ∧ ∃ T N, vwCl[ci]? = some (z.cls, T, N)
def MI (own : String) (idx : Nat) (z : MethodName) (cz : ByteArray) (nz : Nat) (rz : Option FieldType) (np : Nat) : Prop := MB own idx z cz nz rz np ∧ Cond.instanceMethod z ∈ tbw ∧ z.name = "<init>" ∧ rz = none
def pcat (v : PV) : Nat := match v with
  | Sum.inr (Sum.inl _) => 2
  | _ => 1
theorem pcat_map {ad : Nat → Nat} : ∀ (st : List PV), ((st.map (pm_v ad)).map fun v => v.category).sum = (st.map pcat).sum
  | [] => rfl
  | v :: r => by
    rw [List.map_cons, List.map_cons, List.sum_cons, List.map_cons, List.sum_cons, pcat_map r]
    rcases v with z | z | (_ | q) <;> rfl
section EC
variable {l : Launch} {y : MethodName} {cc : ByteArray} {nL : Nat} {rt : Option FieldType} {R : Room} {E : EE} {Z : ZZ} {n0 pc : Nat} {ls : List (Option PV)} {st : List PV} {n ce sl : Nat} {h : HP}
theorem pm_blind {D : va_G} {dA : Nat → ClassId} {ad : Nat → Nat} {sz : Nat} {av : List PV} : FrameBlind (va_Pc (av.map (pm_v ad)) (fun U => U.heap.size = sz ∧ va_P D vwCl (pm_w dA ad n h) U.heap ∧ pm_K D dA U ∧ va_D (fun _ => True) (pm_w dA ad n h))) :=
  fun a U g mk q => by obtain ⟨q0, q1, qP, qK, qD⟩ := q; exact ⟨q0, q1, qP, pm_K.moved (u := U) (U := U.calling g mk a) (Vm.Alike.refl U.vm) qK, qD⟩
theorem mb_call {own : String} {idx : Nat} {z : MethodName} {cz : ByteArray} {nz : Nat} {rz : Option FieldType} {np fr lo mc ms : Nat} {s : State} {args : Array Value} (hts : ∀ w ∈ tbw, w.before args s = true) (hb : MB own idx z cz nz rz np) (hR : fr + 1 ≤ R.frames ∧ 8 + (nz + 11) + lo ≤ R.locals) :
    CallB R s args own idx z cz nz rz (.code z cz nz rz :: tbw) { frames := fr, cells := mc, slots := ms, locals := lo } mc ms np :=
  callB_of np hts (fun w hw => by
    have hm : w ∈ tbw := by
      rcases List.mem_cons.mp hw with e | e
      · rw [e]; exact hb.2.2.1
      · exact e
    exact ⟨hm, tb_good hm⟩) rfl rfl rfl (hts _ hb.2.1) (hts _ hb.1) hb.2.2.2 hR
theorem pm_call {p : Program} {e : Env} {s : State} {m : MethodId} {args : Array Value} {below : List Frame} {meth : Method} {c : Code} {D : va_G} {dA : Nat → ClassId} {ad : Nat → Nat} {A : Nat → Prop} {H : Heap} {locs : List Loc} {lsA : Array Slot} {Qf : State → Prop} {mc ms : Nat} {st0 rest : List Value} {a : Array Value} {Qz : Option PV → Nat → HP → Prop}
    (hr : va_Run p l e R s m args below meth c H locs ce sl mc ms (F0 m pc lsA st0) rest (pm_Q Qz D dA ad n (va_A (pm_w dA ad n h) H.size) a) (va_A (pm_w dA ad n h) H.size))
    (hP : va_P D vwCl (pm_w dA ad n h) H) (hD : va_D A (pm_w dA ad n h)) (hS : va_S A s.heap H locs) (hA : ∀ q, s.heap.size ≤ q → A q)
    (kk : ∀ (r : Option PV) (n' : Nat) (h' : HP) (ad' : Nat → Nat) (H1 : Heap) (locs1 : List Loc), Qz r n' h' → n ≤ n' → (∀ k, k < n → ad' k = ad k) → (n' = n → ad' = ad) → va_P D vwCl (pm_w dA ad' n' h') H1 → va_D A (pm_w dA ad' n' h') → va_S A s.heap H1 locs1 →
      W p l e R s m args below meth c H1 locs1 (ce + mc) (sl + ms) Qf (F0 m (pc + 3) lsA ((r.map (pm_v ad')).toList ++ rest))) : W p l e R s m args below meth c H locs ce sl Qf (F0 m pc lsA st0) := by
  have hF : ∀ q, va_A (pm_w dA ad n h) H.size q → A q := by
    intro q hq
    rcases hq with ⟨k, e, hk⟩ | hq
    · exact hD.2 k (q, e) hk
    · exact hA q (Nat.le_trans hS.1 hq)
  intro T hT X
  obtain ⟨v, st₀, t, T', L, h0, X', hL, e1, e2, ⟨⟨r, n', h', ad', hv, hq, hn, ha, hb, hP1, hK1, hD1⟩, hz, hk⟩, stp⟩ := hr T hT X
  cases hv
  rw [h0] at hz hk
  obtain ⟨t2, a1, b1⟩ := kk r n' h' ad' T'.heap (locs ++ L) hq hn ha hb (by rw [e1]; exact hP1) (hD1.weaken (fun _ _ _ z => hF _ z))
    ⟨Nat.le_trans hS.1 (by rw [e1]; exact hz), fun q h1 h2 => by rw [e1, hk q (Nat.lt_of_lt_of_le h1 hS.1) (fun z => h2 (hF q z))]; exact hS.2.1 q h1 h2, fun q hq => by
      rcases List.mem_append.mp hq with h | h
      · exact hS.2.2 q h
      · exact hF _ (hL q h)⟩ T' rfl X'
  exact ⟨t2, stp t2 a1, b1⟩
theorem ev_callS {idx : Nat} {z : MethodName} {cz : ByteArray} {nz : Nat} {rz : Option FieldType} {np fr lo mc ms : Nat} {av stk : List PV} {Qz : Option PV → Nat → HP → Prop} (hcon : Con l z cz nz rz fr lo mc ms av n h Qz) (hm : MS y.cls idx z cz nz rz np) (hd : decode cc pc = .ok (.invokestatic idx, 3)) (hst : stk = av.reverse ++ st) (hnp : av.length = np) (hcat : (st.map pcat).sum ≤ 8) (hR : fr + 1 ≤ R.frames ∧ 8 + (nz + 11) + lo ≤ R.locals) (hcs : ce + mc ≤ R.cells ∧ sl + ms ≤ R.slots)
    (hn : ∀ r n' h', Qz r n' h' → n' = n) (kk : ∀ r h', Qz r n h' → Ev l y cc nL rt R E Z n0 (pc + 3) ls (r.toList ++ st) n (ce + mc) (sl + ms) h') : Ev l y cc nL rt R E Z n0 pc ls stk n ce sl h := by
  intro p e s m args below meth c C D dA ad0 ad A H locs lsA a0 a1 a2 a3 hK hP hD hS hA hl
  subst hst
  refine pm_call (va_runS (As := av.map (pm_v ad)) (rest := st.map (pm_v ad)) ⟨C.1, C.2.1, C.2.2.2.1, C.2.2.2.2.1, C.2.2.2.2.2.1⟩ (hcon D dA ad H.size) ⟨mb_call C.2.2.2.2.2.1 hm.1 hR, C.2.2.2.2.2.1 _ hm.2⟩ ⟨pm_blind, fun U hU hW => ⟨rfl, by rw [hU], by rw [hU]; exact hP, pm_K.moved hW.alike hK, hD.weaken (fun _ _ _ _ => trivial)⟩⟩ rfl (by rw [List.length_map]; exact hnp) hl.1 (by simp [List.map_reverse]) (lv_room (by rw [pcat_map]; exact hcat)) hd hcs) hP hD hS hA ?_
  intro r n' h' ad' H1 locs1 hq hnn ha hb hP1 hD1 hS1
  have en := hn _ _ _ hq
  subst en
  have ea := hb rfl
  subst ea
  have := kk r h' hq p e s m args below meth c C D dA ad0 ad' A H1 locs1 lsA a0 a1 a2 a3 hK hP1 hD1 hS1 hA hl
  cases r <;> exact this
theorem ev_callV {idx ci : Nat} {z : MethodName} {cz : ByteArray} {nz : Nat} {rz : Option FieldType} {np fr lo mc ms b : Nat} {as stk fs : List PV} {Qz : Option PV → Nat → HP → Prop} (hcon : Con l z cz nz rz fr lo mc ms (vR b :: as) n h Qz) (hm : MV y.cls idx ci z cz nz rz np) (hd : decode cc pc = .ok (.invokevirtual idx, 3)) (hst : stk = as.reverse ++ vR b :: st) (hb : b < n) (hh : h b = kO ci fs) (hnp : as.length = np) (hcat : (st.map pcat).sum ≤ 8) (hR : fr + 1 ≤ R.frames ∧ 8 + (nz + 11) + lo ≤ R.locals) (hcs : ce + mc ≤ R.cells ∧ sl + ms ≤ R.slots)
    (hn : ∀ r n' h', Qz r n' h' → n' = n) (kk : ∀ r h', Qz r n h' → Ev l y cc nL rt R E Z n0 (pc + 3) ls (r.toList ++ st) n (ce + mc) (sl + ms) h') : Ev l y cc nL rt R E Z n0 pc ls stk n ce sl h := by
  intro p e s m args below meth c C D dA ad0 ad A H locs lsA a0 a1 a2 a3 hK hP hD hS hA hl
  subst hst
  obtain ⟨hmb, hin, hse, T, N, hcl⟩ := hm
  refine pm_call (va_runV (C := z.cls) (b := ad b) (As := as.map (pm_v ad)) (rest := st.map (pm_v ad)) ⟨C.1, C.2.1, C.2.2.2.1, C.2.2.2.2.1, C.2.2.2.2.2.1⟩ (hcon D dA ad H.size) ⟨mb_call C.2.2.2.2.2.1 hmb hR, C.2.2.2.2.2.1 _ hin, C.2.2.2.2.2.1 _ hse⟩ ⟨pm_blind, va_recv hK.1 hP hcl (q0 := b) (fs := fs.map (pm_v ad)) (by rw [pm_w_at hb, hh]; rfl), fun U hU hW => ⟨rfl, by rw [hU], by rw [hU]; exact hP, pm_K.moved hW.alike hK, hD.weaken (fun _ _ _ _ => trivial)⟩⟩ rfl (by rw [List.length_map]; exact hnp) hl.1 (by simp [List.map_reverse, pm_v, va_rf]) (lv_room (by rw [pcat_map]; exact hcat)) hd hcs) hP hD hS hA ?_
  intro r n' h' ad' H1 locs1 hq hnn ha hb hP1 hD1 hS1
  have en := hn _ _ _ hq
  subst en
  have ea := hb rfl
  subst ea
  have := kk r h' hq p e s m args below meth c C D dA ad0 ad' A H1 locs1 lsA a0 a1 a2 a3 hK hP1 hD1 hS1 hA hl
  cases r <;> exact this
/-- a constructor: it may make cells -/
theorem ev_callI {idx : Nat} {z : MethodName} {cz : ByteArray} {nz : Nat} {np fr lo mc ms b : Nat} {as stk : List PV} {Qz : Option PV → Nat → HP → Prop} (hcon : Con l z cz nz none fr lo mc ms (vR b :: as) n h Qz) (hm : MI y.cls idx z cz nz none np) (hd : decode cc pc = .ok (.invokespecial idx, 3)) (hst : stk = as.reverse ++ vR b :: st) (hnp : as.length = np) (hcat : (st.map pcat).sum ≤ 8) (hR : fr + 1 ≤ R.frames ∧ 8 + (nz + 11) + lo ≤ R.locals) (hcs : ce + mc ≤ R.cells ∧ sl + ms ≤ R.slots)
    (hok : oks n st) (hol : okl n ls) (hn : ∀ r n' h', Qz r n' h' → r = none) (kk : ∀ n' h', n ≤ n' → Qz none n' h' → Ev l y cc nL rt R E Z n0 (pc + 3) ls st n' (ce + mc) (sl + ms) h') : Ev l y cc nL rt R E Z n0 pc ls stk n ce sl h := by
  intro p e s m args below meth c C D dA ad0 ad A H locs lsA a0 a1 a2 a3 hK hP hD hS hA hl
  subst hst
  obtain ⟨hmb, hin, hnm, -⟩ := hm
  refine pm_call (va_runI (b := ad b) (As := as.map (pm_v ad)) (rest := st.map (pm_v ad)) ⟨C.1, C.2.1, C.2.2.2.1, C.2.2.2.2.1, C.2.2.2.2.2.1⟩ (hcon D dA ad H.size) ⟨mb_call C.2.2.2.2.2.1 hmb hR, hnm, C.2.2.2.2.2.1 _ hin⟩ ⟨pm_blind, fun U hU hW => ⟨rfl, by rw [hU], by rw [hU]; exact hP, pm_K.moved hW.alike hK, hD.weaken (fun _ _ _ _ => trivial)⟩⟩ rfl (by rw [List.length_map]; exact hnp) hl.1 (by simp [List.map_reverse, pm_v, va_rf]) (lv_room (by rw [pcat_map]; exact hcat)) hd hcs) hP hD hS hA ?_
  intro r n' h' ad' H1 locs1 hq hnn ha hb hP1 hD1 hS1
  have er := hn _ _ _ hq
  subst er
  have := kk n' h' hnn hq p e s m args below meth c C D dA ad0 ad' A H1 locs1 lsA a0 (Nat.le_trans a1 hnn) (fun k hk => (ha k (Nat.lt_of_lt_of_le hk a1)).trans (a2 k hk)) (fun e => by
    have e1 : n' = n := by omega
    have e2 : n = n0 := by omega
    rw [hb e1, a3 e2]) hK hP1 hD1 hS1 hA (lvs_eq (fun i v hv => okl_at hol i v hv) (fun k hk => (ha k hk).symm) hl)
  rw [← oks_map (fun k hk => (ha k hk).symm) hok] at this
  exact this
/-- returns -/
theorem ev_iret {Q : Option PV → Nat → HP → Prop} {mc ms : Nat} {x : Int} (hrt : rt = some .int) (hd : decode cc pc = .ok (.ireturn, 1)) (hq : Q (some (vI x)) n h) (hce : ce ≤ mc) (hsl : sl ≤ ms) : Ev l y cc nL rt R E (zM Q n0 mc ms) n0 pc ls [vI x] n ce sl h := by
  intro p e s m args below meth c C D dA ad0 ad A H locs lsA a0 a1 a2 a3 hK hP hD hS hA hl
  refine W.widen hce hsl ?_
  exact W.iret (v := Int32.ofInt x) C.1 C.2.1 (C.2.2.1.trans hrt) (fun t ht hW => ⟨⟨some (vI x), n, h, ad, rfl, hq, a1, a2, a3, by rw [ht]; exact hP, pm_K.moved hW.alike hK, hD⟩, hS.F ht⟩) hS.2.2 hd C.2.2.2.2.2.2.1
theorem ev_zret {Q : Option PV → Nat → HP → Prop} {mc ms : Nat} {x : Int} (hrt : rt = some .boolean) (hx : x = 0 ∨ x = 1) (hd : decode cc pc = .ok (.ireturn, 1)) (hq : Q (some (vI x)) n h) (hce : ce ≤ mc) (hsl : sl ≤ ms) : Ev l y cc nL rt R E (zM Q n0 mc ms) n0 pc ls [vI x] n ce sl h := by
  intro p e s m args below meth c C D dA ad0 ad A H locs lsA a0 a1 a2 a3 hK hP hD hS hA hl
  refine W.widen hce hsl ?_
  exact W.zret (v := Int32.ofInt x) (ty := .boolean) C.1 C.2.1 (C.2.2.1.trans hrt) (okT_Z hx (fun _ => 0)).1 (fun t ht hW => ⟨⟨some (vI x), n, h, ad, rfl, hq, a1, a2, a3, by rw [ht]; exact hP, pm_K.moved hW.alike hK, hD⟩, hS.F ht⟩) hS.2.2 hd C.2.2.2.2.2.2.1
theorem ev_lret {Q : Option PV → Nat → HP → Prop} {mc ms : Nat} {x : Int} (hrt : rt = some .long) (hd : decode cc pc = .ok (.lreturn, 1)) (hq : Q (some (vL x)) n h) (hce : ce ≤ mc) (hsl : sl ≤ ms) : Ev l y cc nL rt R E (zM Q n0 mc ms) n0 pc ls [vL x] n ce sl h := by
  intro p e s m args below meth c C D dA ad0 ad A H locs lsA a0 a1 a2 a3 hK hP hD hS hA hl
  refine W.widen hce hsl ?_
  exact W.lret (v := Int64.ofInt x) C.1 C.2.1 (C.2.2.1.trans hrt) (fun t ht hW => ⟨⟨some (vL x), n, h, ad, rfl, hq, a1, a2, a3, by rw [ht]; exact hP, pm_K.moved hW.alike hK, hD⟩, hS.F ht⟩) hS.2.2 hd C.2.2.2.2.2.2.1
theorem ev_vret {Q : Option PV → Nat → HP → Prop} {mc ms : Nat} (hrt : rt = none) (hd : decode cc pc = .ok (.return_, 1)) (hq : Q none n h) (hce : ce ≤ mc) (hsl : sl ≤ ms) : Ev l y cc nL rt R E (zM Q n0 mc ms) n0 pc ls [] n ce sl h := by
  intro p e s m args below meth c C D dA ad0 ad A H locs lsA a0 a1 a2 a3 hK hP hD hS hA hl
  refine W.widen hce hsl ?_
  exact W.vret C.1 C.2.1 (C.2.2.1.trans hrt) (fun t ht hW => ⟨⟨none, n, h, ad, rfl, hq, a1, a2, a3, by rw [ht]; exact hP, pm_K.moved hW.alike hK, hD⟩, hS.F ht⟩) hS.2.2 hd C.2.2.2.2.2.2.1
end EC
