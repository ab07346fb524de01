section TB
variable {l : Launch} {y : MethodName} {cc : ByteArray} {nL : Nat} {rt : Option FieldType} {R : Room} {E : EE} {Z : ZZ} {n0 pc : Nat} {ls : List (Option PV)} {st : List PV} {n ce sl : Nat} {h : HP}
theorem ev_tabIn {dflt lo hi off x : Int} {offs : Array Int} {len : Nat} (tgt : Nat) (hd : decode cc pc = .ok (.tableswitch dflt lo hi offs, len)) (hx : i32 x) (h1 : ¬ x < lo) (h2 : ¬ hi < x) (ho : offs[(x - lo).toNat]? = some off) (k : Ev l y cc nL rt R E Z n0 tgt ls st n ce sl h) (ht : (pc : Int) + off = (tgt : Int) := by decide) : Ev l y cc nL rt R E Z n0 pc ls (vI x :: st) n ce sl h :=
  ev_STP (fun ad C hl k => lv_tableIn C.1 C.2.1 hd (by rw [pm_r32 hx]; exact h1) (by rw [pm_r32 hx]; exact h2) (by rw [pm_r32 hx]; exact ho) ht k) k
theorem ev_tabOut {dflt lo hi x : Int} {offs : Array Int} {len : Nat} (tgt : Nat) (hd : decode cc pc = .ok (.tableswitch dflt lo hi offs, len)) (hx : i32 x) (h1 : x < lo ∨ hi < x) (k : Ev l y cc nL rt R E Z n0 tgt ls st n ce sl h) (ht : (pc : Int) + dflt = (tgt : Int) := by decide) : Ev l y cc nL rt R E Z n0 pc ls (vI x :: st) n ce sl h :=
  ev_STP (fun ad C hl k => lv_tableOut C.1 C.2.1 hd (by rw [pm_r32 hx]; exact h1) ht k) k
end TB
theorem TR.of {M M' : Mem} {t : Nat} (h : TR M t) (h1 : M' (2 + 2 * t) = M (2 + 2 * t)) (h2 : M' (2 + 2 * t + 1) = M (2 + 2 * t + 1)) : TR M' t := by
  unfold TR at *
  rw [h1, h2]
  exact h
def hOK (H : Nat → Int) : Prop := ∀ i, i < 9 → H i = 200000 ∨ (-10000 ≤ H i ∧ H i ≤ 10000)
theorem hV_bd {H : Nat → Int} {sh be : Int} (hH : hOK H) (hb : 0 < be) (h0 : 0 ≤ sh) (h1 : sh ≤ be) (hh : hasH H sh be) : -(10000 * be) ≤ hV H sh be ∧ hV H sh be ≤ 10000 * be := by
  obtain ⟨-, -, -, f4, f5, f6, f7⟩ := h_facts hb h0 h1
  have ha := hH (hI sh be) (by omega)
  have ha1 := hh.1
  by_cases hr : hR sh be = 0
  · rw [hV_0 hr]
    have u1 := Int.mul_le_mul_of_nonneg_right (show H (hI sh be) ≤ 10000 by omega) (show (0 : Int) ≤ be by omega)
    have u2 := Int.mul_le_mul_of_nonneg_right (show -10000 ≤ H (hI sh be) by omega) (show (0 : Int) ≤ be by omega)
    omega
  · have hb2 := hH (hI sh be + 1) (by omega)
    have hb3 := hh.2 hr
    unfold hV
    rw [if_neg hr]
    have u1 := Int.mul_le_mul_of_nonneg_right (show H (hI sh be) ≤ 10000 by omega) (show (0 : Int) ≤ be - hR sh be by omega)
    have u2 := Int.mul_le_mul_of_nonneg_right (show -10000 ≤ H (hI sh be) by omega) (show (0 : Int) ≤ be - hR sh be by omega)
    have u3 := Int.mul_le_mul_of_nonneg_right (show H (hI sh be + 1) ≤ 10000 by omega) f4
    have u4 := Int.mul_le_mul_of_nonneg_right (show -10000 ≤ H (hI sh be + 1) by omega) f4
    omega
theorem ed_bd {a b c : Int} (hb : 0 < b) (h1 : -(c * b) ≤ a) (h2 : a ≤ c * b) : -c ≤ a / b ∧ a / b ≤ c := by
  constructor
  · rw [Int.le_ediv_iff_mul_le hb, Int.neg_mul]; exact h1
  · have := Int.ediv_le_ediv hb h2
    rwa [Int.mul_ediv_cancel _ (show b ≠ 0 by omega)] at this
/-- the DIFFERENCE of two tracks, by their rows -/
def dOK (A B HA HB : Nat → Int) : Prop := A 6 = 0 ∧ B 6 = 0 ∧ cIs A B ∧ hasH HA (cSA A B) (cBe A B) ∧ hasH HB (cSB A B) (cBe A B)
def dV (A B HA HB : Nat → Int) : Int := (10 * (hV HA (cSA A B) (cBe A B) - hV HB (cSB A B) (cBe A B))) / cBe A B
theorem cBe_bd {M : Mem} {i j : Nat} (hA : TR M i) (hB : TR M j) : 0 ≤ cBe (M (2 + 2 * i)) (M (2 + 2 * j)) ∧ cBe (M (2 + 2 * i)) (M (2 + 2 * j)) ≤ 80000 := by
  obtain ⟨a0, a1, a2, a3, a4, a5, a6, -⟩ := hA
  obtain ⟨b0, b1, b2, b3, b4, b5, b6, -⟩ := hB
  have p0 := mb (x := M (2 + 2 * i) 3) (z := M (2 + 2 * j) 4) 200 200 (by omega) (by omega)
  have p1 := mb (x := M (2 + 2 * i) 4) (z := M (2 + 2 * j) 3) 200 200 (by omega) (by omega)
  unfold cBe cSg cTu
  split <;> omega
theorem dV_bd {A B HA HB : Nat → Int} (h1 : hOK HA) (h2 : hOK HB) (h : dOK A B HA HB) (hb : 0 ≤ cBe A B) : -200000 ≤ dV A B HA HB ∧ dV A B HA HB ≤ 200000 := by
  obtain ⟨-, -, ⟨c0, c1, c2, c3, c4⟩, e1, e2⟩ := h
  have u1 := hV_bd h1 (by omega) c1 c2 e1
  have u2 := hV_bd h2 (by omega) c3 c4 e2
  unfold dV
  exact ed_bd (by omega) (by omega) (by omega)
set_option maxRecDepth 100000 in
set_option maxHeartbeats 4000000 in
theorem c_differenceOf (l : Launch) {M : Mem} {i j : Nat} (hi : i < 8) (hj : j < 8) (hA : TR M i) (hB : TR M j) : Cm l yX1_differenceOf cX1_differenceOf 7 (some .int) 1 30 [vR 18, vR (2 + 2 * i), vR (2 + 2 * j)] M (fun r M' => (∀ k, k ≠ 18 → M' k = M k) ∧ ((¬ dOK (M (2 + 2 * i)) (M (2 + 2 * j)) (M (2 + 2 * i + 1)) (M (2 + 2 * j + 1)) ∧ r = some (vI (-1000000002))) ∨ (dOK (M (2 + 2 * i)) (M (2 + 2 * j)) (M (2 + 2 * i + 1)) (M (2 + 2 * j + 1)) ∧ r = some (vI (dV (M (2 + 2 * i)) (M (2 + 2 * j)) (M (2 + 2 * i + 1)) (M (2 + 2 * j + 1))))))) := by
  refine cmo [some (vR 18), some (vR (2 + 2 * i)), some (vR (2 + 2 * j)), none, none, none, none] ?_
  have hA' := hA
  have hB' := hB
  obtain ⟨-, -, -, -, -, -, a6, a7⟩ := hA'
  obtain ⟨-, -, -, -, -, -, b6, b7⟩ := hB'
  have hbe := cBe_bd hA hB
  refine ev_aload_n dX1_differenceOf_0 rfl ?_
  refine em_getI fX1_54.g dX1_differenceOf_1 (lay_trk (i := i) (by omega)) rfl ?_
  refine ev_if_ne 14 dX1_differenceOf_4 (by omega) (fun c4 => ?_) (fun c4 => ?_)
  · refine ev_ldc (-1000000002) kX1_57 dX1_differenceOf_14 (by decide) ?_
    exact em_iret dX1_differenceOf_16 ⟨fun _ _ => rfl, Or.inl ⟨fun q => by have := q.1; have := q.2.1; omega, rfl⟩⟩
  · refine ev_aload_n dX1_differenceOf_7 rfl ?_
    refine em_getI fX1_54.g dX1_differenceOf_8 (lay_trk (i := j) (by omega)) rfl ?_
    refine ev_if_eq 17 dX1_differenceOf_11 (by omega) (fun c11 => ?_) (fun c11 => ?_)
    · refine ev_aload_n dX1_differenceOf_17 rfl ?_
      refine ev_aload_n dX1_differenceOf_18 rfl ?_
      refine ev_aload_n dX1_differenceOf_19 rfl ?_
      refine em_V2 (c_find l (by omega) (by omega) hA hB) mX1_58 dX1_differenceOf_20 lay_18 ?_
      rintro r M1 ⟨rfl, k20, g1, g2, g3, h20⟩
      refine ev_aload_n dX1_differenceOf_23 rfl ?_
      refine em_getI fX1_9.g dX1_differenceOf_24 lay_18 rfl ?_
      refine ev_if_eq 39 dX1_differenceOf_27 (by omega) (fun c27 => ?_) (fun c27 => ?_)
      · refine ev_ldc (-1000000002) kX1_57 dX1_differenceOf_39 (by decide) ?_
        first | exact em_iret dX1_differenceOf_41 ⟨k20, Or.inl ⟨fun q => by rcases h20 with h | h; exact h.2 q.2.2.1; omega, rfl⟩⟩ | (exfalso; rcases h20 with h | h; omega; have := h.2.1; omega)
      · refine ev_aload_n dX1_differenceOf_30 rfl ?_
        refine em_getL fX1_15.g dX1_differenceOf_31 lay_18 rfl ?_
        refine ev_lconst0 dX1_differenceOf_34 ?_
        refine ev_lcmp_gt 42 dX1_differenceOf_35 dX1_differenceOf_36 (by omega) (by omega) (fun c35 => ?_) (fun c35 => ?_)
        · have hcis : cIs (M (2 + 2 * i)) (M (2 + 2 * j)) := by rcases h20 with h | h; omega; exact h.2
          obtain ⟨z0, z1, z2, z3, z4⟩ := id hcis
          have e1 := k20 (2 + 2 * i) (by omega)
          have e2 := k20 (2 + 2 * i + 1) (by omega)
          have e3 := k20 (2 + 2 * j) (by omega)
          have e4 := k20 (2 + 2 * j + 1) (by omega)
          have hA2 : TR M1 i := hA.of e1 e2
          have hB2 : TR M1 j := hB.of e3 e4
          refine ev_aload_n dX1_differenceOf_42 rfl ?_
          refine ev_aload_n dX1_differenceOf_43 rfl ?_
          refine em_getL fX1_36.g dX1_differenceOf_44 lay_18 rfl ?_
          refine ev_aload_n dX1_differenceOf_47 rfl ?_
          refine em_getL fX1_15.g dX1_differenceOf_48 lay_18 rfl ?_
          refine em_V2 (c_htb l (by omega) hA2 (by omega) (by omega) (by omega) (by omega)) mX1_48 dX1_differenceOf_51 (lay_trk (i := i) (by omega)) ?_
          rintro r M2 ⟨rfl, ⟨n51, rfl⟩ | ⟨y51, rfl⟩⟩
          · (first | (rw [e2, g2, g1] at n51) | (rw [e2, g2, g1] at y51 ⊢))
            refine ev_lstore_n dX1_differenceOf_54 (by decide) ?_
            refine ev_ls [some (vR _), some (vR _), some (vR _), some (vL _), none, none, none] rfl ?_
            refine ev_aload_n dX1_differenceOf_55 rfl ?_
            refine ev_aload_n dX1_differenceOf_56 rfl ?_
            refine em_getL fX1_39.g dX1_differenceOf_57 lay_18 rfl ?_
            refine ev_aload_n dX1_differenceOf_60 rfl ?_
            refine em_getL fX1_15.g dX1_differenceOf_61 lay_18 rfl ?_
            refine em_V2 (c_htb l (by omega) hB2 (by omega) (by omega) (by omega) (by omega)) mX1_48 dX1_differenceOf_64 (lay_trk (i := j) (by omega)) ?_
            rintro r M3 ⟨rfl, ⟨n64, rfl⟩ | ⟨y64, rfl⟩⟩
            · (first | (rw [e4, g3, g1] at n64) | (rw [e4, g3, g1] at y64 ⊢))
              refine ev_lstore dX1_differenceOf_67 (by decide) ?_
              refine ev_ls [some (vR _), some (vR _), some (vR _), some (vL _), none, some (vL _), none] rfl ?_
              have q1 : hasH (M (2 + 2 * i + 1)) (cSA (M (2 + 2 * i)) (M (2 + 2 * j))) (cBe (M (2 + 2 * i)) (M (2 + 2 * j))) → -(10000 * cBe (M (2 + 2 * i)) (M (2 + 2 * j))) ≤ hV (M (2 + 2 * i + 1)) (cSA (M (2 + 2 * i)) (M (2 + 2 * j))) (cBe (M (2 + 2 * i)) (M (2 + 2 * j))) ∧ hV (M (2 + 2 * i + 1)) (cSA (M (2 + 2 * i)) (M (2 + 2 * j))) (cBe (M (2 + 2 * i)) (M (2 + 2 * j))) ≤ 10000 * cBe (M (2 + 2 * i)) (M (2 + 2 * j)) := fun q => hV_bd a7 (by omega) (by omega) (by omega) q
              have q2 : hasH (M (2 + 2 * j + 1)) (cSB (M (2 + 2 * i)) (M (2 + 2 * j))) (cBe (M (2 + 2 * i)) (M (2 + 2 * j))) → -(10000 * cBe (M (2 + 2 * i)) (M (2 + 2 * j))) ≤ hV (M (2 + 2 * j + 1)) (cSB (M (2 + 2 * i)) (M (2 + 2 * j))) (cBe (M (2 + 2 * i)) (M (2 + 2 * j))) ∧ hV (M (2 + 2 * j + 1)) (cSB (M (2 + 2 * i)) (M (2 + 2 * j))) (cBe (M (2 + 2 * i)) (M (2 + 2 * j))) ≤ 10000 * cBe (M (2 + 2 * i)) (M (2 + 2 * j)) := fun q => hV_bd b7 (by omega) (by omega) (by omega) q
              try replace q1 := q1 y51
              try replace q2 := q2 y64
              refine ev_lload_n dX1_differenceOf_69 rfl ?_
              refine ev_ldc2 (-1000000000000000000) kX1_52 dX1_differenceOf_70 (by decide) ?_
              refine ev_lcmp_eq 86 dX1_differenceOf_73 dX1_differenceOf_74 (by omega) (by omega) (fun c73 => ?_) (fun c73 => ?_)
              · refine ev_ldc (-1000000002) kX1_57 dX1_differenceOf_86 (by decide) ?_
                first | exact em_iret dX1_differenceOf_88 ⟨k20, Or.inl ⟨fun q => n51 q.2.2.2.1, rfl⟩⟩ | exact em_iret dX1_differenceOf_88 ⟨k20, Or.inl ⟨fun q => n64 q.2.2.2.2, rfl⟩⟩ | (exfalso; omega)
              · refine ev_lload dX1_differenceOf_77 rfl ?_
                refine ev_ldc2 (-1000000000000000000) kX1_52 dX1_differenceOf_79 (by decide) ?_
                refine ev_lcmp_ne 89 dX1_differenceOf_82 dX1_differenceOf_83 (by omega) (by omega) (fun c82 => ?_) (fun c82 => ?_)
                · refine ev_ldc2 (10) kX1_62 dX1_differenceOf_89 (by decide) ?_
                  refine ev_lload_n dX1_differenceOf_92 rfl ?_
                  refine ev_lload dX1_differenceOf_93 rfl ?_
                  refine ev_lsub dX1_differenceOf_95 ?_
                  refine ev_lmul dX1_differenceOf_96 ?_
                  refine ev_aload_n dX1_differenceOf_97 rfl ?_
                  refine em_getL fX1_15.g dX1_differenceOf_98 lay_18 rfl ?_
                  rw [g1]
                  refine em_S2 (c_fdL l _ (by omega) (by omega) (by omega)) mX1_64 dX1_differenceOf_101 ?_
                  rintro r M ⟨rfl, rfl⟩
                  refine ev_l2i dX1_differenceOf_104 ?_
                  first | exact em_iret dX1_differenceOf_105 ⟨k20, Or.inr ⟨⟨by omega, by omega, hcis, y51, y64⟩, rfl⟩⟩ | (exfalso; omega)
                · refine ev_ldc (-1000000002) kX1_57 dX1_differenceOf_86 (by decide) ?_
                  first | exact em_iret dX1_differenceOf_88 ⟨k20, Or.inl ⟨fun q => n51 q.2.2.2.1, rfl⟩⟩ | exact em_iret dX1_differenceOf_88 ⟨k20, Or.inl ⟨fun q => n64 q.2.2.2.2, rfl⟩⟩ | (exfalso; omega)
            · (first | (rw [e4, g3, g1] at n64) | (rw [e4, g3, g1] at y64 ⊢))
              refine ev_lstore dX1_differenceOf_67 (by decide) ?_
              refine ev_ls [some (vR _), some (vR _), some (vR _), some (vL _), none, some (vL _), none] rfl ?_
              have q1 : hasH (M (2 + 2 * i + 1)) (cSA (M (2 + 2 * i)) (M (2 + 2 * j))) (cBe (M (2 + 2 * i)) (M (2 + 2 * j))) → -(10000 * cBe (M (2 + 2 * i)) (M (2 + 2 * j))) ≤ hV (M (2 + 2 * i + 1)) (cSA (M (2 + 2 * i)) (M (2 + 2 * j))) (cBe (M (2 + 2 * i)) (M (2 + 2 * j))) ∧ hV (M (2 + 2 * i + 1)) (cSA (M (2 + 2 * i)) (M (2 + 2 * j))) (cBe (M (2 + 2 * i)) (M (2 + 2 * j))) ≤ 10000 * cBe (M (2 + 2 * i)) (M (2 + 2 * j)) := fun q => hV_bd a7 (by omega) (by omega) (by omega) q
              have q2 : hasH (M (2 + 2 * j + 1)) (cSB (M (2 + 2 * i)) (M (2 + 2 * j))) (cBe (M (2 + 2 * i)) (M (2 + 2 * j))) → -(10000 * cBe (M (2 + 2 * i)) (M (2 + 2 * j))) ≤ hV (M (2 + 2 * j + 1)) (cSB (M (2 + 2 * i)) (M (2 + 2 * j))) (cBe (M (2 + 2 * i)) (M (2 + 2 * j))) ∧ hV (M (2 + 2 * j + 1)) (cSB (M (2 + 2 * i)) (M (2 + 2 * j))) (cBe (M (2 + 2 * i)) (M (2 + 2 * j))) ≤ 10000 * cBe (M (2 + 2 * i)) (M (2 + 2 * j)) := fun q => hV_bd b7 (by omega) (by omega) (by omega) q
              try replace q1 := q1 y51
              try replace q2 := q2 y64
              refine ev_lload_n dX1_differenceOf_69 rfl ?_
              refine ev_ldc2 (-1000000000000000000) kX1_52 dX1_differenceOf_70 (by decide) ?_
              refine ev_lcmp_eq 86 dX1_differenceOf_73 dX1_differenceOf_74 (by omega) (by omega) (fun c73 => ?_) (fun c73 => ?_)
              · refine ev_ldc (-1000000002) kX1_57 dX1_differenceOf_86 (by decide) ?_
                first | exact em_iret dX1_differenceOf_88 ⟨k20, Or.inl ⟨fun q => n51 q.2.2.2.1, rfl⟩⟩ | exact em_iret dX1_differenceOf_88 ⟨k20, Or.inl ⟨fun q => n64 q.2.2.2.2, rfl⟩⟩ | (exfalso; omega)
              · refine ev_lload dX1_differenceOf_77 rfl ?_
                refine ev_ldc2 (-1000000000000000000) kX1_52 dX1_differenceOf_79 (by decide) ?_
                refine ev_lcmp_ne 89 dX1_differenceOf_82 dX1_differenceOf_83 (by omega) (by omega) (fun c82 => ?_) (fun c82 => ?_)
                · refine ev_ldc2 (10) kX1_62 dX1_differenceOf_89 (by decide) ?_
                  refine ev_lload_n dX1_differenceOf_92 rfl ?_
                  refine ev_lload dX1_differenceOf_93 rfl ?_
                  refine ev_lsub dX1_differenceOf_95 ?_
                  refine ev_lmul dX1_differenceOf_96 ?_
                  refine ev_aload_n dX1_differenceOf_97 rfl ?_
                  refine em_getL fX1_15.g dX1_differenceOf_98 lay_18 rfl ?_
                  rw [g1]
                  refine em_S2 (c_fdL l _ (by omega) (by omega) (by omega)) mX1_64 dX1_differenceOf_101 ?_
                  rintro r M ⟨rfl, rfl⟩
                  refine ev_l2i dX1_differenceOf_104 ?_
                  first | exact em_iret dX1_differenceOf_105 ⟨k20, Or.inr ⟨⟨by omega, by omega, hcis, y51, y64⟩, rfl⟩⟩ | (exfalso; omega)
                · refine ev_ldc (-1000000002) kX1_57 dX1_differenceOf_86 (by decide) ?_
                  first | exact em_iret dX1_differenceOf_88 ⟨k20, Or.inl ⟨fun q => n51 q.2.2.2.1, rfl⟩⟩ | exact em_iret dX1_differenceOf_88 ⟨k20, Or.inl ⟨fun q => n64 q.2.2.2.2, rfl⟩⟩ | (exfalso; omega)
          · (first | (rw [e2, g2, g1] at n51) | (rw [e2, g2, g1] at y51 ⊢))
            refine ev_lstore_n dX1_differenceOf_54 (by decide) ?_
            refine ev_ls [some (vR _), some (vR _), some (vR _), some (vL _), none, none, none] rfl ?_
            refine ev_aload_n dX1_differenceOf_55 rfl ?_
            refine ev_aload_n dX1_differenceOf_56 rfl ?_
            refine em_getL fX1_39.g dX1_differenceOf_57 lay_18 rfl ?_
            refine ev_aload_n dX1_differenceOf_60 rfl ?_
            refine em_getL fX1_15.g dX1_differenceOf_61 lay_18 rfl ?_
            refine em_V2 (c_htb l (by omega) hB2 (by omega) (by omega) (by omega) (by omega)) mX1_48 dX1_differenceOf_64 (lay_trk (i := j) (by omega)) ?_
            rintro r M3 ⟨rfl, ⟨n64, rfl⟩ | ⟨y64, rfl⟩⟩
            · (first | (rw [e4, g3, g1] at n64) | (rw [e4, g3, g1] at y64 ⊢))
              refine ev_lstore dX1_differenceOf_67 (by decide) ?_
              refine ev_ls [some (vR _), some (vR _), some (vR _), some (vL _), none, some (vL _), none] rfl ?_
              have q1 : hasH (M (2 + 2 * i + 1)) (cSA (M (2 + 2 * i)) (M (2 + 2 * j))) (cBe (M (2 + 2 * i)) (M (2 + 2 * j))) → -(10000 * cBe (M (2 + 2 * i)) (M (2 + 2 * j))) ≤ hV (M (2 + 2 * i + 1)) (cSA (M (2 + 2 * i)) (M (2 + 2 * j))) (cBe (M (2 + 2 * i)) (M (2 + 2 * j))) ∧ hV (M (2 + 2 * i + 1)) (cSA (M (2 + 2 * i)) (M (2 + 2 * j))) (cBe (M (2 + 2 * i)) (M (2 + 2 * j))) ≤ 10000 * cBe (M (2 + 2 * i)) (M (2 + 2 * j)) := fun q => hV_bd a7 (by omega) (by omega) (by omega) q
              have q2 : hasH (M (2 + 2 * j + 1)) (cSB (M (2 + 2 * i)) (M (2 + 2 * j))) (cBe (M (2 + 2 * i)) (M (2 + 2 * j))) → -(10000 * cBe (M (2 + 2 * i)) (M (2 + 2 * j))) ≤ hV (M (2 + 2 * j + 1)) (cSB (M (2 + 2 * i)) (M (2 + 2 * j))) (cBe (M (2 + 2 * i)) (M (2 + 2 * j))) ∧ hV (M (2 + 2 * j + 1)) (cSB (M (2 + 2 * i)) (M (2 + 2 * j))) (cBe (M (2 + 2 * i)) (M (2 + 2 * j))) ≤ 10000 * cBe (M (2 + 2 * i)) (M (2 + 2 * j)) := fun q => hV_bd b7 (by omega) (by omega) (by omega) q
              try replace q1 := q1 y51
              try replace q2 := q2 y64
              refine ev_lload_n dX1_differenceOf_69 rfl ?_
              refine ev_ldc2 (-1000000000000000000) kX1_52 dX1_differenceOf_70 (by decide) ?_
              refine ev_lcmp_eq 86 dX1_differenceOf_73 dX1_differenceOf_74 (by omega) (by omega) (fun c73 => ?_) (fun c73 => ?_)
              · refine ev_ldc (-1000000002) kX1_57 dX1_differenceOf_86 (by decide) ?_
                first | exact em_iret dX1_differenceOf_88 ⟨k20, Or.inl ⟨fun q => n51 q.2.2.2.1, rfl⟩⟩ | exact em_iret dX1_differenceOf_88 ⟨k20, Or.inl ⟨fun q => n64 q.2.2.2.2, rfl⟩⟩ | (exfalso; omega)
              · refine ev_lload dX1_differenceOf_77 rfl ?_
                refine ev_ldc2 (-1000000000000000000) kX1_52 dX1_differenceOf_79 (by decide) ?_
                refine ev_lcmp_ne 89 dX1_differenceOf_82 dX1_differenceOf_83 (by omega) (by omega) (fun c82 => ?_) (fun c82 => ?_)
                · refine ev_ldc2 (10) kX1_62 dX1_differenceOf_89 (by decide) ?_
                  refine ev_lload_n dX1_differenceOf_92 rfl ?_
                  refine ev_lload dX1_differenceOf_93 rfl ?_
                  refine ev_lsub dX1_differenceOf_95 ?_
                  refine ev_lmul dX1_differenceOf_96 ?_
                  refine ev_aload_n dX1_differenceOf_97 rfl ?_
                  refine em_getL fX1_15.g dX1_differenceOf_98 lay_18 rfl ?_
                  rw [g1]
                  refine em_S2 (c_fdL l _ (by omega) (by omega) (by omega)) mX1_64 dX1_differenceOf_101 ?_
                  rintro r M ⟨rfl, rfl⟩
                  refine ev_l2i dX1_differenceOf_104 ?_
                  first | exact em_iret dX1_differenceOf_105 ⟨k20, Or.inr ⟨⟨by omega, by omega, hcis, y51, y64⟩, rfl⟩⟩ | (exfalso; omega)
                · refine ev_ldc (-1000000002) kX1_57 dX1_differenceOf_86 (by decide) ?_
                  first | exact em_iret dX1_differenceOf_88 ⟨k20, Or.inl ⟨fun q => n51 q.2.2.2.1, rfl⟩⟩ | exact em_iret dX1_differenceOf_88 ⟨k20, Or.inl ⟨fun q => n64 q.2.2.2.2, rfl⟩⟩ | (exfalso; omega)
            · (first | (rw [e4, g3, g1] at n64) | (rw [e4, g3, g1] at y64 ⊢))
              refine ev_lstore dX1_differenceOf_67 (by decide) ?_
              refine ev_ls [some (vR _), some (vR _), some (vR _), some (vL _), none, some (vL _), none] rfl ?_
              have q1 : hasH (M (2 + 2 * i + 1)) (cSA (M (2 + 2 * i)) (M (2 + 2 * j))) (cBe (M (2 + 2 * i)) (M (2 + 2 * j))) → -(10000 * cBe (M (2 + 2 * i)) (M (2 + 2 * j))) ≤ hV (M (2 + 2 * i + 1)) (cSA (M (2 + 2 * i)) (M (2 + 2 * j))) (cBe (M (2 + 2 * i)) (M (2 + 2 * j))) ∧ hV (M (2 + 2 * i + 1)) (cSA (M (2 + 2 * i)) (M (2 + 2 * j))) (cBe (M (2 + 2 * i)) (M (2 + 2 * j))) ≤ 10000 * cBe (M (2 + 2 * i)) (M (2 + 2 * j)) := fun q => hV_bd a7 (by omega) (by omega) (by omega) q
              have q2 : hasH (M (2 + 2 * j + 1)) (cSB (M (2 + 2 * i)) (M (2 + 2 * j))) (cBe (M (2 + 2 * i)) (M (2 + 2 * j))) → -(10000 * cBe (M (2 + 2 * i)) (M (2 + 2 * j))) ≤ hV (M (2 + 2 * j + 1)) (cSB (M (2 + 2 * i)) (M (2 + 2 * j))) (cBe (M (2 + 2 * i)) (M (2 + 2 * j))) ∧ hV (M (2 + 2 * j + 1)) (cSB (M (2 + 2 * i)) (M (2 + 2 * j))) (cBe (M (2 + 2 * i)) (M (2 + 2 * j))) ≤ 10000 * cBe (M (2 + 2 * i)) (M (2 + 2 * j)) := fun q => hV_bd b7 (by omega) (by omega) (by omega) q
              try replace q1 := q1 y51
              try replace q2 := q2 y64
              refine ev_lload_n dX1_differenceOf_69 rfl ?_
              refine ev_ldc2 (-1000000000000000000) kX1_52 dX1_differenceOf_70 (by decide) ?_
              refine ev_lcmp_eq 86 dX1_differenceOf_73 dX1_differenceOf_74 (by omega) (by omega) (fun c73 => ?_) (fun c73 => ?_)
              · refine ev_ldc (-1000000002) kX1_57 dX1_differenceOf_86 (by decide) ?_
                first | exact em_iret dX1_differenceOf_88 ⟨k20, Or.inl ⟨fun q => n51 q.2.2.2.1, rfl⟩⟩ | exact em_iret dX1_differenceOf_88 ⟨k20, Or.inl ⟨fun q => n64 q.2.2.2.2, rfl⟩⟩ | (exfalso; omega)
              · refine ev_lload dX1_differenceOf_77 rfl ?_
                refine ev_ldc2 (-1000000000000000000) kX1_52 dX1_differenceOf_79 (by decide) ?_
                refine ev_lcmp_ne 89 dX1_differenceOf_82 dX1_differenceOf_83 (by omega) (by omega) (fun c82 => ?_) (fun c82 => ?_)
                · refine ev_ldc2 (10) kX1_62 dX1_differenceOf_89 (by decide) ?_
                  refine ev_lload_n dX1_differenceOf_92 rfl ?_
                  refine ev_lload dX1_differenceOf_93 rfl ?_
                  refine ev_lsub dX1_differenceOf_95 ?_
                  refine ev_lmul dX1_differenceOf_96 ?_
                  refine ev_aload_n dX1_differenceOf_97 rfl ?_
                  refine em_getL fX1_15.g dX1_differenceOf_98 lay_18 rfl ?_
                  rw [g1]
                  refine em_S2 (c_fdL l _ (by omega) (by omega) (by omega)) mX1_64 dX1_differenceOf_101 ?_
                  rintro r M ⟨rfl, rfl⟩
                  refine ev_l2i dX1_differenceOf_104 ?_
                  first | exact em_iret dX1_differenceOf_105 ⟨k20, Or.inr ⟨⟨by omega, by omega, hcis, y51, y64⟩, rfl⟩⟩ | (exfalso; omega)
                · refine ev_ldc (-1000000002) kX1_57 dX1_differenceOf_86 (by decide) ?_
                  first | exact em_iret dX1_differenceOf_88 ⟨k20, Or.inl ⟨fun q => n51 q.2.2.2.1, rfl⟩⟩ | exact em_iret dX1_differenceOf_88 ⟨k20, Or.inl ⟨fun q => n64 q.2.2.2.2, rfl⟩⟩ | (exfalso; omega)
        · refine ev_ldc (-1000000002) kX1_57 dX1_differenceOf_39 (by decide) ?_
          first | exact em_iret dX1_differenceOf_41 ⟨k20, Or.inl ⟨fun q => by rcases h20 with h | h; exact h.2 q.2.2.1; omega, rfl⟩⟩ | (exfalso; rcases h20 with h | h; omega; have := h.2.1; omega)
    · refine ev_ldc (-1000000002) kX1_57 dX1_differenceOf_14 (by decide) ?_
      exact em_iret dX1_differenceOf_16 ⟨fun _ _ => rfl, Or.inl ⟨fun q => by have := q.1; have := q.2.1; omega, rfl⟩⟩
