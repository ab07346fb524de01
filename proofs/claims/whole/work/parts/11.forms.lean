/-! layout by number; places by natural numbers; forms of answers -/
theorem lay_0 : lay 0 = .inr (.inr (5, [.inr 1, .inr 18, .inr 19, .inr 50, .inr 52, .inl 0, .inl 2])) := rfl
theorem lay_1 : lay 1 = .inr (.inl (0, 8, fun i => if i < 8 then some (2 + 2 * i) else none)) := rfl
theorem lay_18 : lay 18 = .inr (.inr (1, [.inl 2, .inl 1, .inl 1, .inl 1])) := rfl
theorem lay_19 : lay 19 = .inr (.inr (0, [.inr 20, .inl 0, .inl 0, .inl 0, .inl 1, .inr 29, .inr 38, .inr 39, .inr 40, .inr 49, .inl 1, .inl 1])) := rfl
theorem lay_20 : lay 20 = .inr (.inl (1, 8, fun i => if i < 8 then some (21 + i) else none)) := rfl
theorem lay_29 : lay 29 = .inr (.inl (2, 8, fun i => if i < 8 then some (30 + i) else none)) := rfl
theorem lay_38 : lay 38 = .inl (0, 8) := rfl
theorem lay_39 : lay 39 = .inl (0, 8) := rfl
theorem lay_40 : lay 40 = .inr (.inl (3, 8, fun i => if i < 8 then some (41 + i) else none)) := rfl
theorem lay_49 : lay 49 = .inl (1, 8) := rfl
theorem lay_50 : lay 50 = .inr (.inr (3, [.inr 51, .inl 0])) := rfl
theorem lay_51 : lay 51 = .inl (0, 6) := rfl
theorem lay_52 : lay 52 = lFrc := rfl
theorem lay_53 : lay 53 = .inr (.inr (6, [.inl 0, .inr 54, .inr 55, .inr 56, .inl 0, .inr 57, .inl 1, .inl 1, .inl 1, .inl 1, .inl 1, .inr 58, .inr 59, .inr 60, .inr 61, .inr 62, .inl 1, .inl 1])) := rfl
theorem lay_54 : lay 54 = .inl (0, 48) := rfl
theorem lay_55 : lay 55 = .inl (0, 72) := rfl
theorem lay_56 : lay 56 = .inl (2, 8) := rfl
theorem lay_57 : lay 57 = .inl (0, 6) := rfl
theorem lay_58 : lay 58 = .inl (0, 8) := rfl
theorem lay_59 : lay 59 = .inl (0, 8) := rfl
theorem lay_60 : lay 60 = .inl (1, 64) := rfl
theorem lay_61 : lay 61 = .inl (1, 8) := rfl
theorem lay_62 : lay 62 = .inl (1, 8) := rfl
section EN
variable {l : Launch} {y : MethodName} {cc : ByteArray} {nL : Nat} {rt : Option FieldType} {R : Room} {E : EE} {Z : ZZ} {n0 pc : Nat} {ls : List (Option PV)} {st : List PV} {ce sl : Nat} {M : Mem}
theorem en_iald (i : Nat) (hd : decode cc pc = .ok (.iaload, 1)) {r m : Nat} {z : Int} (hl : lay r = .inl (0, m)) (hi : z = (i : Int)) (him : i < m) (kk : Ev l y cc nL rt R E Z n0 (pc + 1) ls (vI (M r i) :: st) 63 ce sl (hp M)) (hm : m < 2147483648 := by decide) (hr : r < 63 := by omega) : Ev l y cc nL rt R E Z n0 pc ls (vI z :: vR r :: st) 63 ce sl (hp M) := by
  subst hi
  exact em_iald hd hl (by omega) (by rw [Int.toNat_natCast]; exact kk) hm hr
theorem en_zald (i : Nat) (hd : decode cc pc = .ok (.baload, 1)) {r m : Nat} {z : Int} (hl : lay r = .inl (2, m)) (hi : z = (i : Int)) (him : i < m) (kk : Ev l y cc nL rt R E Z n0 (pc + 1) ls (vI (M r i) :: st) 63 ce sl (hp M)) (hm : m < 2147483648 := by decide) (hr : r < 63 := by omega) : Ev l y cc nL rt R E Z n0 pc ls (vI z :: vR r :: st) 63 ce sl (hp M) := by
  subst hi
  exact em_zald hd hl (by omega) (by rw [Int.toNat_natCast]; exact kk) hm hr
theorem en_lald (i : Nat) (hd : decode cc pc = .ok (.laload, 1)) {r m : Nat} {z : Int} (hl : lay r = .inl (1, m)) (hi : z = (i : Int)) (him : i < m) (kk : Ev l y cc nL rt R E Z n0 (pc + 1) ls (vL (M r i) :: st) 63 ce sl (hp M)) (hm : m < 2147483648 := by decide) (hr : r < 63 := by omega) : Ev l y cc nL rt R E Z n0 pc ls (vI z :: vR r :: st) 63 ce sl (hp M) := by
  subst hi
  exact em_lald hd hl (by omega) (by rw [Int.toNat_natCast]; exact kk) hm hr
theorem en_iast (i : Nat) (hd : decode cc pc = .ok (.iastore, 1)) {r m : Nat} {z x : Int} (hl : lay r = .inl (0, m)) (hi : z = (i : Int)) (him : i < m) (kk : Ev l y cc nL rt R E Z n0 (pc + 1) ls st 63 ce sl (hp (up2 M r i x))) (hm : m < 2147483648 := by decide) (hr : r < 63 := by omega) : Ev l y cc nL rt R E Z n0 pc ls (vI x :: vI z :: vR r :: st) 63 ce sl (hp M) := by
  subst hi
  exact em_iast hd hl (by omega) (by rw [Int.toNat_natCast]; exact kk) hm hr
theorem en_zast (i : Nat) (hd : decode cc pc = .ok (.bastore, 1)) {r m : Nat} {z x : Int} (hl : lay r = .inl (2, m)) (hi : z = (i : Int)) (him : i < m) (hx : x = 0 ∨ x = 1) (kk : Ev l y cc nL rt R E Z n0 (pc + 1) ls st 63 ce sl (hp (up2 M r i x))) (hm : m < 2147483648 := by decide) (hr : r < 63 := by omega) : Ev l y cc nL rt R E Z n0 pc ls (vI x :: vI z :: vR r :: st) 63 ce sl (hp M) := by
  subst hi
  exact em_zast hd hl (by omega) hx (by rw [Int.toNat_natCast]; exact kk) hm hr
theorem en_last (i : Nat) (hd : decode cc pc = .ok (.lastore, 1)) {r m : Nat} {z x : Int} (hl : lay r = .inl (1, m)) (hi : z = (i : Int)) (him : i < m) (kk : Ev l y cc nL rt R E Z n0 (pc + 1) ls st 63 ce sl (hp (up2 M r i x))) (hm : m < 2147483648 := by decide) (hr : r < 63 := by omega) : Ev l y cc nL rt R E Z n0 pc ls (vL x :: vI z :: vR r :: st) 63 ce sl (hp M) := by
  subst hi
  exact em_last hd hl (by omega) (by rw [Int.toNat_natCast]; exact kk) hm hr
theorem en_trk (i : Nat) (hd : decode cc pc = .ok (.aaload, 1)) {z : Int} (hi : z = (i : Int)) (him : i < 8) (kk : Ev l y cc nL rt R E Z n0 (pc + 1) ls (vR (2 + 2 * i) :: st) 63 ce sl (hp M)) : Ev l y cc nL rt R E Z n0 pc ls (vI z :: vR 1 :: st) 63 ce sl (hp M) := by
  subst hi
  exact em_aald hd lay_1 (by omega) (by rw [Int.toNat_natCast]; exact if_pos him) kk
theorem en_frc (i : Nat) (hd : decode cc pc = .ok (.aaload, 1)) {z : Int} (hi : z = (i : Int)) (him : i < 8) (kk : Ev l y cc nL rt R E Z n0 (pc + 1) ls (vR (21 + i) :: st) 63 ce sl (hp M)) : Ev l y cc nL rt R E Z n0 pc ls (vI z :: vR 20 :: st) 63 ce sl (hp M) := by
  subst hi
  exact em_aald hd lay_20 (by omega) (by rw [Int.toNat_natCast]; exact if_pos him) kk
theorem en_dif (i : Nat) (hd : decode cc pc = .ok (.aaload, 1)) {z : Int} (hi : z = (i : Int)) (him : i < 8) (kk : Ev l y cc nL rt R E Z n0 (pc + 1) ls (vR (30 + i) :: st) 63 ce sl (hp M)) : Ev l y cc nL rt R E Z n0 pc ls (vI z :: vR 29 :: st) 63 ce sl (hp M) := by
  subst hi
  exact em_aald hd lay_29 (by omega) (by rw [Int.toNat_natCast]; exact if_pos him) kk
theorem en_row (i : Nat) (hd : decode cc pc = .ok (.aaload, 1)) {z : Int} (hi : z = (i : Int)) (him : i < 8) (kk : Ev l y cc nL rt R E Z n0 (pc + 1) ls (vR (41 + i) :: st) 63 ce sl (hp M)) : Ev l y cc nL rt R E Z n0 pc ls (vI z :: vR 40 :: st) 63 ce sl (hp M) := by
  subst hi
  exact em_aald hd lay_40 (by omega) (by rw [Int.toNat_natCast]; exact if_pos him) kk
end EN
theorem cmo {l : Launch} {y : MethodName} {cc : ByteArray} {nL : Nat} {rt : Option FieldType} {fr lo : Nat} {av : List PV} {M : Mem} {Q : QM} (ls : List (Option PV)) (k : Em l y cc nL rt fr lo Q 0 ls [] M) (hpl : plainName y.cls = true := by decide +kernel) (hlen : (enl av).length ≤ nL := by exact Nat.le_of_ble_eq_true rfl) (hls : enl av ++ List.replicate (nL - (enl av).length) none = ls := by rfl) : Cm l y cc nL rt fr lo av M Q := con_of ls hpl hlen hls k
def rI (x : Int) (M : Mem) : QM := fun r M' => M' = M ∧ r = some (vI x)
def rL (x : Int) (M : Mem) : QM := fun r M' => M' = M ∧ r = some (vL x)
def rV (M : Mem) : QM := fun r M' => M' = M ∧ r = none
def rB (P : Prop) (M : Mem) : QM := fun r M' => M' = M ∧ ∃ z : Int, r = some (vI z) ∧ ((z = 0 ∧ ¬ P) ∨ (z = 1 ∧ P))
abbrev i32 (x : Int) : Prop := -2147483648 ≤ x ∧ x < 2147483648
abbrev i64 (x : Int) : Prop := -9223372036854775808 ≤ x ∧ x < 9223372036854775808

theorem con_ofF {l : Launch} {y : MethodName} {cc : ByteArray} {nL : Nat} {rt : Option FieldType} {fr lo mc ms : Nat} {av : List PV} {n : Nat} {h : HP} {Q : Option PV → Nat → HP → Prop} (ls : List (Option PV)) (hpl : plainFor y = true) (hlen : (enl av).length ≤ nL) (hls : enl av ++ List.replicate (nL - (enl av).length) none = ls)
    (k : Ev l y cc nL rt { frames := fr, cells := mc, slots := ms, locals := lo } eT (zM Q n mc ms) n 0 ls [] n 0 0 h) : Con l y cc nL rt fr lo mc ms av n h Q := by
  intro D dA ad sz
  refine va_MetF (cc := cc) (maxL := nL) (ret := rt) hpl rfl ?_
  intro p e s m args below meth c s₁ B hml hv
  obtain ⟨rfl, hsz, hP, hK, hD0⟩ := hv
  subst hsz
  have hts : ∀ w ∈ tbw, w.before (av.map (pm_v ad)).toArray s = true := fun w hw => atoms_spec (ws := .code y cc nL rt :: tbw) B.pre w (List.mem_cons_of_mem _ hw)
  have C : Cx y cc nL rt p s m (av.map (pm_v ad)).toArray meth c := ⟨B.exec, B.bytes, B.returns, hml, findClass_of_methodNamed B.named, hts, B.notSynchronized, (name_of_methodNamed B.named B.method).1⟩
  rw [lg_entry_eq]
  have he := lv_entry (av.map (pm_v ad)) (n := nL) (by rw [enl_len]; exact hlen)
  subst hls
  exact k p e s m _ below meth c C D dA ad ad _ s.heap [] _ trivial (Nat.le_refl _) (fun _ _ => rfl) (fun _ => rfl) hK hP hD0.self va_S.rf (fun q h => Or.inr h) ⟨he.1, he.2.1, fun i v hi => he.2.2 (i, pm_v ad v) (by have := enl_args (ad := ad) av 0 i v hi; rwa [Nat.zero_add] at this)⟩
theorem cmoF {l : Launch} {y : MethodName} {cc : ByteArray} {nL : Nat} {rt : Option FieldType} {fr lo : Nat} {av : List PV} {M : Mem} {Q : QM} (ls : List (Option PV)) (k : Em l y cc nL rt fr lo Q 0 ls [] M) (hpl : plainFor y = true := by decide +kernel) (hlen : (enl av).length ≤ nL := by exact Nat.le_of_ble_eq_true rfl) (hls : enl av ++ List.replicate (nL - (enl av).length) none = ls := by rfl) : Cm l y cc nL rt fr lo av M Q := con_ofF ls hpl hlen hls k
theorem ev_ls {l : Launch} {y : MethodName} {cc : ByteArray} {nL : Nat} {rt : Option FieldType} {R : Room} {E : EE} {Z : ZZ} {n0 pc : Nat} {ls : List (Option PV)} {st : List PV} {n ce sl : Nat} {h : HP} (ls2 : List (Option PV)) (e : ls = ls2) (k : Ev l y cc nL rt R E Z n0 pc ls2 st n ce sl h) : Ev l y cc nL rt R E Z n0 pc ls st n ce sl h := e ▸ k
section ED
variable {l : Launch} {y : MethodName} {cc : ByteArray} {nL : Nat} {rt : Option FieldType} {R : Room} {E : EE} {Z : ZZ} {n0 pc : Nat} {ls : List (Option PV)} {st : List PV} {n ce sl : Nat} {h : HP}
theorem ev_idiv {a b : Int} (hd : decode cc pc = .ok (.idiv, 1)) (ha : -2147483648 ≤ a ∧ a < 2147483648) (hb : -2147483648 ≤ b ∧ b < 2147483648) (h0 : b ≠ 0) (k : Ev l y cc nL rt R E Z n0 (pc + 1) ls (vI (a.tdiv b) :: st) n ce sl h) : Ev l y cc nL rt R E Z n0 pc ls (vI b :: vI a :: st) n ce sl h :=
  ev_STP (fun ad C hl k => lv_idiv C.1 C.2.1 hd (pm_ne32 hb h0) (by rw [pm_div32 ha hb]; exact k)) k
end ED
section EK
variable {l : Launch} {y : MethodName} {cc : ByteArray} {nL : Nat} {rt : Option FieldType} {R : Room} {E : EE} {Z : ZZ} {n0 pc : Nat} {ls : List (Option PV)} {st : List PV} {ce sl : Nat} {M : Mem}
theorem em_V0 {idx ci b : Nat} {z : MethodName} {cz : ByteArray} {nz : Nat} {rz : Option FieldType} {fr lo : Nat} {ts : List FT} {Qz : QM} (hcon : Cm l z cz nz rz fr lo [vR b] M Qz) (hm : MV y.cls idx ci z cz nz rz 0) (hd : decode cc pc = .ok (.invokevirtual idx, 3)) (hl : lay b = .inr (.inr (ci, ts))) (kk : ∀ r M', Qz r M' → Ev l y cc nL rt R E Z n0 (pc + 3) ls (r.toList ++ st) 63 ce sl (hp M')) (hR : fr + 1 ≤ R.frames ∧ 8 + (nz + 11) + lo ≤ R.locals := by decide) (hcs : ce ≤ R.cells ∧ sl ≤ R.slots := by decide) (hb : b < 63 := by omega) (hcat : (st.map pcat).sum ≤ 8 := by simp [pcat]) : Ev l y cc nL rt R E Z n0 pc ls (vR b :: st) 63 ce sl (hp M) :=
  em_callV [] st hcon hm hd hl kk hR hcs hb rfl rfl hcat
theorem em_V1 {idx ci b : Nat} {z : MethodName} {cz : ByteArray} {nz : Nat} {rz : Option FieldType} {fr lo : Nat} {ts : List FT} {Qz : QM} {a1 : PV} (hcon : Cm l z cz nz rz fr lo [vR b, a1] M Qz) (hm : MV y.cls idx ci z cz nz rz 1) (hd : decode cc pc = .ok (.invokevirtual idx, 3)) (hl : lay b = .inr (.inr (ci, ts))) (kk : ∀ r M', Qz r M' → Ev l y cc nL rt R E Z n0 (pc + 3) ls (r.toList ++ st) 63 ce sl (hp M')) (hR : fr + 1 ≤ R.frames ∧ 8 + (nz + 11) + lo ≤ R.locals := by decide) (hcs : ce ≤ R.cells ∧ sl ≤ R.slots := by decide) (hb : b < 63 := by omega) (hcat : (st.map pcat).sum ≤ 8 := by simp [pcat]) : Ev l y cc nL rt R E Z n0 pc ls (a1 :: vR b :: st) 63 ce sl (hp M) :=
  em_callV [a1] st hcon hm hd hl kk hR hcs hb rfl rfl hcat
theorem em_S1 {idx : Nat} {z : MethodName} {cz : ByteArray} {nz : Nat} {rz : Option FieldType} {fr lo : Nat} {Qz : QM} {a1 : PV} (hcon : Cm l z cz nz rz fr lo [a1] M Qz) (hm : MS y.cls idx z cz nz rz 1) (hd : decode cc pc = .ok (.invokestatic idx, 3)) (kk : ∀ r M', Qz r M' → Ev l y cc nL rt R E Z n0 (pc + 3) ls (r.toList ++ st) 63 ce sl (hp M')) (hR : fr + 1 ≤ R.frames ∧ 8 + (nz + 11) + lo ≤ R.locals := by decide) (hcs : ce ≤ R.cells ∧ sl ≤ R.slots := by decide) (hcat : (st.map pcat).sum ≤ 8 := by simp [pcat]) : Ev l y cc nL rt R E Z n0 pc ls (a1 :: st) 63 ce sl (hp M) :=
  em_callS [a1] st hcon hm hd kk hR hcs rfl rfl hcat
theorem em_V2 {idx ci b : Nat} {z : MethodName} {cz : ByteArray} {nz : Nat} {rz : Option FieldType} {fr lo : Nat} {ts : List FT} {Qz : QM} {a1 a2 : PV} (hcon : Cm l z cz nz rz fr lo [vR b, a1, a2] M Qz) (hm : MV y.cls idx ci z cz nz rz 2) (hd : decode cc pc = .ok (.invokevirtual idx, 3)) (hl : lay b = .inr (.inr (ci, ts))) (kk : ∀ r M', Qz r M' → Ev l y cc nL rt R E Z n0 (pc + 3) ls (r.toList ++ st) 63 ce sl (hp M')) (hR : fr + 1 ≤ R.frames ∧ 8 + (nz + 11) + lo ≤ R.locals := by decide) (hcs : ce ≤ R.cells ∧ sl ≤ R.slots := by decide) (hb : b < 63 := by omega) (hcat : (st.map pcat).sum ≤ 8 := by simp [pcat]) : Ev l y cc nL rt R E Z n0 pc ls (a2 :: a1 :: vR b :: st) 63 ce sl (hp M) :=
  em_callV [a1, a2] st hcon hm hd hl kk hR hcs hb rfl rfl hcat
theorem em_S2 {idx : Nat} {z : MethodName} {cz : ByteArray} {nz : Nat} {rz : Option FieldType} {fr lo : Nat} {Qz : QM} {a1 a2 : PV} (hcon : Cm l z cz nz rz fr lo [a1, a2] M Qz) (hm : MS y.cls idx z cz nz rz 2) (hd : decode cc pc = .ok (.invokestatic idx, 3)) (kk : ∀ r M', Qz r M' → Ev l y cc nL rt R E Z n0 (pc + 3) ls (r.toList ++ st) 63 ce sl (hp M')) (hR : fr + 1 ≤ R.frames ∧ 8 + (nz + 11) + lo ≤ R.locals := by decide) (hcs : ce ≤ R.cells ∧ sl ≤ R.slots := by decide) (hcat : (st.map pcat).sum ≤ 8 := by simp [pcat]) : Ev l y cc nL rt R E Z n0 pc ls (a2 :: a1 :: st) 63 ce sl (hp M) :=
  em_callS [a1, a2] st hcon hm hd kk hR hcs rfl rfl hcat
theorem em_V3 {idx ci b : Nat} {z : MethodName} {cz : ByteArray} {nz : Nat} {rz : Option FieldType} {fr lo : Nat} {ts : List FT} {Qz : QM} {a1 a2 a3 : PV} (hcon : Cm l z cz nz rz fr lo [vR b, a1, a2, a3] M Qz) (hm : MV y.cls idx ci z cz nz rz 3) (hd : decode cc pc = .ok (.invokevirtual idx, 3)) (hl : lay b = .inr (.inr (ci, ts))) (kk : ∀ r M', Qz r M' → Ev l y cc nL rt R E Z n0 (pc + 3) ls (r.toList ++ st) 63 ce sl (hp M')) (hR : fr + 1 ≤ R.frames ∧ 8 + (nz + 11) + lo ≤ R.locals := by decide) (hcs : ce ≤ R.cells ∧ sl ≤ R.slots := by decide) (hb : b < 63 := by omega) (hcat : (st.map pcat).sum ≤ 8 := by simp [pcat]) : Ev l y cc nL rt R E Z n0 pc ls (a3 :: a2 :: a1 :: vR b :: st) 63 ce sl (hp M) :=
  em_callV [a1, a2, a3] st hcon hm hd hl kk hR hcs hb rfl rfl hcat
theorem em_S3 {idx : Nat} {z : MethodName} {cz : ByteArray} {nz : Nat} {rz : Option FieldType} {fr lo : Nat} {Qz : QM} {a1 a2 a3 : PV} (hcon : Cm l z cz nz rz fr lo [a1, a2, a3] M Qz) (hm : MS y.cls idx z cz nz rz 3) (hd : decode cc pc = .ok (.invokestatic idx, 3)) (kk : ∀ r M', Qz r M' → Ev l y cc nL rt R E Z n0 (pc + 3) ls (r.toList ++ st) 63 ce sl (hp M')) (hR : fr + 1 ≤ R.frames ∧ 8 + (nz + 11) + lo ≤ R.locals := by decide) (hcs : ce ≤ R.cells ∧ sl ≤ R.slots := by decide) (hcat : (st.map pcat).sum ≤ 8 := by simp [pcat]) : Ev l y cc nL rt R E Z n0 pc ls (a3 :: a2 :: a1 :: st) 63 ce sl (hp M) :=
  em_callS [a1, a2, a3] st hcon hm hd kk hR hcs rfl rfl hcat
theorem em_V4 {idx ci b : Nat} {z : MethodName} {cz : ByteArray} {nz : Nat} {rz : Option FieldType} {fr lo : Nat} {ts : List FT} {Qz : QM} {a1 a2 a3 a4 : PV} (hcon : Cm l z cz nz rz fr lo [vR b, a1, a2, a3, a4] M Qz) (hm : MV y.cls idx ci z cz nz rz 4) (hd : decode cc pc = .ok (.invokevirtual idx, 3)) (hl : lay b = .inr (.inr (ci, ts))) (kk : ∀ r M', Qz r M' → Ev l y cc nL rt R E Z n0 (pc + 3) ls (r.toList ++ st) 63 ce sl (hp M')) (hR : fr + 1 ≤ R.frames ∧ 8 + (nz + 11) + lo ≤ R.locals := by decide) (hcs : ce ≤ R.cells ∧ sl ≤ R.slots := by decide) (hb : b < 63 := by omega) (hcat : (st.map pcat).sum ≤ 8 := by simp [pcat]) : Ev l y cc nL rt R E Z n0 pc ls (a4 :: a3 :: a2 :: a1 :: vR b :: st) 63 ce sl (hp M) :=
  em_callV [a1, a2, a3, a4] st hcon hm hd hl kk hR hcs hb rfl rfl hcat
theorem em_S4 {idx : Nat} {z : MethodName} {cz : ByteArray} {nz : Nat} {rz : Option FieldType} {fr lo : Nat} {Qz : QM} {a1 a2 a3 a4 : PV} (hcon : Cm l z cz nz rz fr lo [a1, a2, a3, a4] M Qz) (hm : MS y.cls idx z cz nz rz 4) (hd : decode cc pc = .ok (.invokestatic idx, 3)) (kk : ∀ r M', Qz r M' → Ev l y cc nL rt R E Z n0 (pc + 3) ls (r.toList ++ st) 63 ce sl (hp M')) (hR : fr + 1 ≤ R.frames ∧ 8 + (nz + 11) + lo ≤ R.locals := by decide) (hcs : ce ≤ R.cells ∧ sl ≤ R.slots := by decide) (hcat : (st.map pcat).sum ≤ 8 := by simp [pcat]) : Ev l y cc nL rt R E Z n0 pc ls (a4 :: a3 :: a2 :: a1 :: st) 63 ce sl (hp M) :=
  em_callS [a1, a2, a3, a4] st hcon hm hd kk hR hcs rfl rfl hcat
theorem em_V5 {idx ci b : Nat} {z : MethodName} {cz : ByteArray} {nz : Nat} {rz : Option FieldType} {fr lo : Nat} {ts : List FT} {Qz : QM} {a1 a2 a3 a4 a5 : PV} (hcon : Cm l z cz nz rz fr lo [vR b, a1, a2, a3, a4, a5] M Qz) (hm : MV y.cls idx ci z cz nz rz 5) (hd : decode cc pc = .ok (.invokevirtual idx, 3)) (hl : lay b = .inr (.inr (ci, ts))) (kk : ∀ r M', Qz r M' → Ev l y cc nL rt R E Z n0 (pc + 3) ls (r.toList ++ st) 63 ce sl (hp M')) (hR : fr + 1 ≤ R.frames ∧ 8 + (nz + 11) + lo ≤ R.locals := by decide) (hcs : ce ≤ R.cells ∧ sl ≤ R.slots := by decide) (hb : b < 63 := by omega) (hcat : (st.map pcat).sum ≤ 8 := by simp [pcat]) : Ev l y cc nL rt R E Z n0 pc ls (a5 :: a4 :: a3 :: a2 :: a1 :: vR b :: st) 63 ce sl (hp M) :=
  em_callV [a1, a2, a3, a4, a5] st hcon hm hd hl kk hR hcs hb rfl rfl hcat
theorem em_S5 {idx : Nat} {z : MethodName} {cz : ByteArray} {nz : Nat} {rz : Option FieldType} {fr lo : Nat} {Qz : QM} {a1 a2 a3 a4 a5 : PV} (hcon : Cm l z cz nz rz fr lo [a1, a2, a3, a4, a5] M Qz) (hm : MS y.cls idx z cz nz rz 5) (hd : decode cc pc = .ok (.invokestatic idx, 3)) (kk : ∀ r M', Qz r M' → Ev l y cc nL rt R E Z n0 (pc + 3) ls (r.toList ++ st) 63 ce sl (hp M')) (hR : fr + 1 ≤ R.frames ∧ 8 + (nz + 11) + lo ≤ R.locals := by decide) (hcs : ce ≤ R.cells ∧ sl ≤ R.slots := by decide) (hcat : (st.map pcat).sum ≤ 8 := by simp [pcat]) : Ev l y cc nL rt R E Z n0 pc ls (a5 :: a4 :: a3 :: a2 :: a1 :: st) 63 ce sl (hp M) :=
  em_callS [a1, a2, a3, a4, a5] st hcon hm hd kk hR hcs rfl rfl hcat
theorem em_V6 {idx ci b : Nat} {z : MethodName} {cz : ByteArray} {nz : Nat} {rz : Option FieldType} {fr lo : Nat} {ts : List FT} {Qz : QM} {a1 a2 a3 a4 a5 a6 : PV} (hcon : Cm l z cz nz rz fr lo [vR b, a1, a2, a3, a4, a5, a6] M Qz) (hm : MV y.cls idx ci z cz nz rz 6) (hd : decode cc pc = .ok (.invokevirtual idx, 3)) (hl : lay b = .inr (.inr (ci, ts))) (kk : ∀ r M', Qz r M' → Ev l y cc nL rt R E Z n0 (pc + 3) ls (r.toList ++ st) 63 ce sl (hp M')) (hR : fr + 1 ≤ R.frames ∧ 8 + (nz + 11) + lo ≤ R.locals := by decide) (hcs : ce ≤ R.cells ∧ sl ≤ R.slots := by decide) (hb : b < 63 := by omega) (hcat : (st.map pcat).sum ≤ 8 := by simp [pcat]) : Ev l y cc nL rt R E Z n0 pc ls (a6 :: a5 :: a4 :: a3 :: a2 :: a1 :: vR b :: st) 63 ce sl (hp M) :=
  em_callV [a1, a2, a3, a4, a5, a6] st hcon hm hd hl kk hR hcs hb rfl rfl hcat
theorem em_S6 {idx : Nat} {z : MethodName} {cz : ByteArray} {nz : Nat} {rz : Option FieldType} {fr lo : Nat} {Qz : QM} {a1 a2 a3 a4 a5 a6 : PV} (hcon : Cm l z cz nz rz fr lo [a1, a2, a3, a4, a5, a6] M Qz) (hm : MS y.cls idx z cz nz rz 6) (hd : decode cc pc = .ok (.invokestatic idx, 3)) (kk : ∀ r M', Qz r M' → Ev l y cc nL rt R E Z n0 (pc + 3) ls (r.toList ++ st) 63 ce sl (hp M')) (hR : fr + 1 ≤ R.frames ∧ 8 + (nz + 11) + lo ≤ R.locals := by decide) (hcs : ce ≤ R.cells ∧ sl ≤ R.slots := by decide) (hcat : (st.map pcat).sum ≤ 8 := by simp [pcat]) : Ev l y cc nL rt R E Z n0 pc ls (a6 :: a5 :: a4 :: a3 :: a2 :: a1 :: st) 63 ce sl (hp M) :=
  em_callS [a1, a2, a3, a4, a5, a6] st hcon hm hd kk hR hcs rfl rfl hcat
end EK
