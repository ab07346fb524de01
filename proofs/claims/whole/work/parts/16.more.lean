def abv (A B HA HB : Nat → Int) (be sa sb w : Int) : Int := if w = 0 then A 0 * be + A 3 * sa else if w = 1 then A 1 * be + A 4 * sa else if w = 2 then A 2 * be + A 5 * sa else if w = 3 then B 2 * be + B 5 * sb else if w = 4 then sa else if w = 5 then sb else if w = 6 then hV HA sa be else hV HB sb be
abbrev inB (A H : Nat → Int) (w bi bj : Int) (k : Nat) : Prop := H k ≠ 200000 ∧ (8 * A 0 + A 3 * (k : Int)) / (8 * w) = bi ∧ (8 * A 1 + A 4 * (k : Int)) / (8 * w) = bj
def cntB (A H : Nat → Int) (w bi bj : Int) : Nat → Int
  | 0 => 0
  | n + 1 => cntB A H w bi bj n + (if inB A H w bi bj n then 1 else 0)
def sumB (A H : Nat → Int) (w bi bj : Int) : Nat → Int
  | 0 => 0
  | n + 1 => sumB A H w bi bj n + (if inB A H w bi bj n then H n else 0)
theorem cntB_bd (A H : Nat → Int) (w bi bj : Int) : ∀ n : Nat, 0 ≤ cntB A H w bi bj n ∧ cntB A H w bi bj n ≤ n
  | 0 => ⟨Int.le_refl _, Int.le_refl _⟩
  | n + 1 => by
    have := cntB_bd A H w bi bj n
    show 0 ≤ cntB A H w bi bj n + _ ∧ cntB A H w bi bj n + _ ≤ _
    split <;> omega
theorem sumB_bd {A H : Nat → Int} (hH : hOK H) (w bi bj : Int) : ∀ n : Nat, n ≤ 9 → -(10000 * (n : Int)) ≤ sumB A H w bi bj n ∧ sumB A H w bi bj n ≤ 10000 * (n : Int)
  | 0, _ => ⟨Int.le_refl _, Int.le_refl _⟩
  | n + 1, hn => by
    have := sumB_bd (A := A) hH w bi bj n (by omega)
    have h1 := hH n (by omega)
    show -(10000 * ((n + 1 : Nat) : Int)) ≤ sumB A H w bi bj n + _ ∧ sumB A H w bi bj n + _ ≤ 10000 * ((n + 1 : Nat) : Int)
    split
    · rename_i q
      have := q.1
      omega
    · omega
def dst (p r : Int) : Int := min (r % p) (p - r % p)
set_option maxRecDepth 100000 in
set_option maxHeartbeats 4000000 in
theorem c_aboveOf (l : Launch) {M : Mem} {i j : Nat} {w : Int} (hi : i < 8) (hj : j < 8) (hA : TR M i) (hB : TR M j) (hw : 0 ≤ w ∧ w ≤ 7) (h1 : 0 < M 18 1 ∧ M 18 1 ≤ 80000) (h2 : 0 ≤ M 18 2 ∧ M 18 2 ≤ M 18 1) (h3 : 0 ≤ M 18 3 ∧ M 18 3 ≤ M 18 1) : Cm l yX1_aboveOf cX1_aboveOf 4 (some .long) 1 27 [vR 18, vI w, vR (2 + 2 * i), vR (2 + 2 * j)] M (fun r M' => M' = M ∧ ((((w = 6 ∧ ¬ hasH (M (2 + 2 * i + 1)) (M 18 2) (M 18 1)) ∨ (w = 7 ∧ ¬ hasH (M (2 + 2 * j + 1)) (M 18 3) (M 18 1))) ∧ r = some (vL (-1000000000000000000))) ∨ (¬ ((w = 6 ∧ ¬ hasH (M (2 + 2 * i + 1)) (M 18 2) (M 18 1)) ∨ (w = 7 ∧ ¬ hasH (M (2 + 2 * j + 1)) (M 18 3) (M 18 1))) ∧ r = some (vL (abv (M (2 + 2 * i)) (M (2 + 2 * j)) (M (2 + 2 * i + 1)) (M (2 + 2 * j + 1)) (M 18 1) (M 18 2) (M 18 3) w))))) := by
  refine cmo [some (vR 18), some (vI w), some (vR (2 + 2 * i)), some (vR (2 + 2 * j))] ?_
  obtain ⟨a0, a1, a2, a3, a4, a5, a6, a7⟩ := id hA
  obtain ⟨b0, b1, b2, b3, b4, b5, b6, b7⟩ := id hB
  rcases (show w = 0 ∨ w = 1 ∨ w = 2 ∨ w = 3 ∨ w = 4 ∨ w = 5 ∨ w = 6 ∨ w = 7 by omega) with rfl | rfl | rfl | rfl | rfl | rfl | rfl | rfl
  · refine ev_iload_n dX1_aboveOf_0 rfl ?_
    refine ev_tabIn 48 dX1_aboveOf_1 (by omega) (by omega) (by omega) rfl ?_
    refine ev_aload_n dX1_aboveOf_48 rfl ?_
    refine em_getI fX1_30.g dX1_aboveOf_49 (lay_trk (i := i) (by omega)) rfl ?_
    refine ev_i2l dX1_aboveOf_52 (by omega) ?_
    refine ev_aload_n dX1_aboveOf_53 rfl ?_
    refine em_getL fX1_15.g dX1_aboveOf_54 lay_18 rfl ?_
    refine ev_lmul dX1_aboveOf_57 ?_
    refine ev_aload_n dX1_aboveOf_58 rfl ?_
    refine em_getI fX1_19.g dX1_aboveOf_59 (lay_trk (i := i) (by omega)) rfl ?_
    refine ev_i2l dX1_aboveOf_62 (by omega) ?_
    refine ev_aload_n dX1_aboveOf_63 rfl ?_
    refine em_getL fX1_36.g dX1_aboveOf_64 lay_18 rfl ?_
    refine ev_lmul dX1_aboveOf_67 ?_
    refine ev_ladd dX1_aboveOf_68 ?_
    exact em_lret dX1_aboveOf_69 ⟨rfl, Or.inr ⟨by omega, rfl⟩⟩
  · refine ev_iload_n dX1_aboveOf_0 rfl ?_
    refine ev_tabIn 70 dX1_aboveOf_1 (by omega) (by omega) (by omega) rfl ?_
    refine ev_aload_n dX1_aboveOf_70 rfl ?_
    refine em_getI fX1_33.g dX1_aboveOf_71 (lay_trk (i := i) (by omega)) rfl ?_
    refine ev_i2l dX1_aboveOf_74 (by omega) ?_
    refine ev_aload_n dX1_aboveOf_75 rfl ?_
    refine em_getL fX1_15.g dX1_aboveOf_76 lay_18 rfl ?_
    refine ev_lmul dX1_aboveOf_79 ?_
    refine ev_aload_n dX1_aboveOf_80 rfl ?_
    refine em_getI fX1_25.g dX1_aboveOf_81 (lay_trk (i := i) (by omega)) rfl ?_
    refine ev_i2l dX1_aboveOf_84 (by omega) ?_
    refine ev_aload_n dX1_aboveOf_85 rfl ?_
    refine em_getL fX1_36.g dX1_aboveOf_86 lay_18 rfl ?_
    refine ev_lmul dX1_aboveOf_89 ?_
    refine ev_ladd dX1_aboveOf_90 ?_
    exact em_lret dX1_aboveOf_91 ⟨rfl, Or.inr ⟨by omega, rfl⟩⟩
  · refine ev_iload_n dX1_aboveOf_0 rfl ?_
    refine ev_tabIn 92 dX1_aboveOf_1 (by omega) (by omega) (by omega) rfl ?_
    refine ev_aload_n dX1_aboveOf_92 rfl ?_
    refine em_getI fX1_42.g dX1_aboveOf_93 (lay_trk (i := i) (by omega)) rfl ?_
    refine ev_i2l dX1_aboveOf_96 (by omega) ?_
    refine ev_aload_n dX1_aboveOf_97 rfl ?_
    refine em_getL fX1_15.g dX1_aboveOf_98 lay_18 rfl ?_
    refine ev_lmul dX1_aboveOf_101 ?_
    refine ev_aload_n dX1_aboveOf_102 rfl ?_
    refine em_getI fX1_45.g dX1_aboveOf_103 (lay_trk (i := i) (by omega)) rfl ?_
    refine ev_i2l dX1_aboveOf_106 (by omega) ?_
    refine ev_aload_n dX1_aboveOf_107 rfl ?_
    refine em_getL fX1_36.g dX1_aboveOf_108 lay_18 rfl ?_
    refine ev_lmul dX1_aboveOf_111 ?_
    refine ev_ladd dX1_aboveOf_112 ?_
    exact em_lret dX1_aboveOf_113 ⟨rfl, Or.inr ⟨by omega, rfl⟩⟩
  · refine ev_iload_n dX1_aboveOf_0 rfl ?_
    refine ev_tabIn 114 dX1_aboveOf_1 (by omega) (by omega) (by omega) rfl ?_
    refine ev_aload_n dX1_aboveOf_114 rfl ?_
    refine em_getI fX1_42.g dX1_aboveOf_115 (lay_trk (i := j) (by omega)) rfl ?_
    refine ev_i2l dX1_aboveOf_118 (by omega) ?_
    refine ev_aload_n dX1_aboveOf_119 rfl ?_
    refine em_getL fX1_15.g dX1_aboveOf_120 lay_18 rfl ?_
    refine ev_lmul dX1_aboveOf_123 ?_
    refine ev_aload_n dX1_aboveOf_124 rfl ?_
    refine em_getI fX1_45.g dX1_aboveOf_125 (lay_trk (i := j) (by omega)) rfl ?_
    refine ev_i2l dX1_aboveOf_128 (by omega) ?_
    refine ev_aload_n dX1_aboveOf_129 rfl ?_
    refine em_getL fX1_39.g dX1_aboveOf_130 lay_18 rfl ?_
    refine ev_lmul dX1_aboveOf_133 ?_
    refine ev_ladd dX1_aboveOf_134 ?_
    exact em_lret dX1_aboveOf_135 ⟨rfl, Or.inr ⟨by omega, rfl⟩⟩
  · refine ev_iload_n dX1_aboveOf_0 rfl ?_
    refine ev_tabIn 136 dX1_aboveOf_1 (by omega) (by omega) (by omega) rfl ?_
    refine ev_aload_n dX1_aboveOf_136 rfl ?_
    refine em_getL fX1_36.g dX1_aboveOf_137 lay_18 rfl ?_
    exact em_lret dX1_aboveOf_140 ⟨rfl, Or.inr ⟨by omega, rfl⟩⟩
  · refine ev_iload_n dX1_aboveOf_0 rfl ?_
    refine ev_tabIn 141 dX1_aboveOf_1 (by omega) (by omega) (by omega) rfl ?_
    refine ev_aload_n dX1_aboveOf_141 rfl ?_
    refine em_getL fX1_39.g dX1_aboveOf_142 lay_18 rfl ?_
    exact em_lret dX1_aboveOf_145 ⟨rfl, Or.inr ⟨by omega, rfl⟩⟩
  · refine ev_iload_n dX1_aboveOf_0 rfl ?_
    refine ev_tabIn 146 dX1_aboveOf_1 (by omega) (by omega) (by omega) rfl ?_
    refine ev_aload_n dX1_aboveOf_146 rfl ?_
    refine ev_aload_n dX1_aboveOf_147 rfl ?_
    refine em_getL fX1_36.g dX1_aboveOf_148 lay_18 rfl ?_
    refine ev_aload_n dX1_aboveOf_151 rfl ?_
    refine em_getL fX1_15.g dX1_aboveOf_152 lay_18 rfl ?_
    refine em_V2 (c_htb l (by omega) hA (by omega) (by omega) (by omega) (by omega)) mX1_48 dX1_aboveOf_155 (lay_trk (i := i) (by omega)) ?_
    rintro r M ⟨rfl, ⟨nq, rfl⟩ | ⟨yq, rfl⟩⟩
    · first | exact em_lret dX1_aboveOf_158 ⟨rfl, Or.inl ⟨Or.inl ⟨rfl, nq⟩, rfl⟩⟩ | exact em_lret dX1_aboveOf_158 ⟨rfl, Or.inr ⟨fun q => by rcases q with q | q; exact q.2 yq; omega, rfl⟩⟩
    · first | exact em_lret dX1_aboveOf_158 ⟨rfl, Or.inl ⟨Or.inl ⟨rfl, nq⟩, rfl⟩⟩ | exact em_lret dX1_aboveOf_158 ⟨rfl, Or.inr ⟨fun q => by rcases q with q | q; exact q.2 yq; omega, rfl⟩⟩
  · refine ev_iload_n dX1_aboveOf_0 rfl ?_
    refine ev_tabIn 159 dX1_aboveOf_1 (by omega) (by omega) (by omega) rfl ?_
    refine ev_aload_n dX1_aboveOf_159 rfl ?_
    refine ev_aload_n dX1_aboveOf_160 rfl ?_
    refine em_getL fX1_39.g dX1_aboveOf_161 lay_18 rfl ?_
    refine ev_aload_n dX1_aboveOf_164 rfl ?_
    refine em_getL fX1_15.g dX1_aboveOf_165 lay_18 rfl ?_
    refine em_V2 (c_htb l (by omega) hB (by omega) (by omega) (by omega) (by omega)) mX1_48 dX1_aboveOf_168 (lay_trk (i := j) (by omega)) ?_
    rintro r M ⟨rfl, ⟨nq, rfl⟩ | ⟨yq, rfl⟩⟩
    · first | exact em_lret dX1_aboveOf_171 ⟨rfl, Or.inl ⟨Or.inr ⟨rfl, nq⟩, rfl⟩⟩ | exact em_lret dX1_aboveOf_171 ⟨rfl, Or.inr ⟨fun q => by rcases q with q | q; omega; exact q.2 yq, rfl⟩⟩
    · first | exact em_lret dX1_aboveOf_171 ⟨rfl, Or.inl ⟨Or.inr ⟨rfl, nq⟩, rfl⟩⟩ | exact em_lret dX1_aboveOf_171 ⟨rfl, Or.inr ⟨fun q => by rcases q with q | q; omega; exact q.2 yq, rfl⟩⟩
set_option maxRecDepth 100000 in
set_option maxHeartbeats 4000000 in
theorem c_isIn (l : Launch) {M : Mem} {i k : Nat} {w bi bj : Int} (hi : i < 8) (hA : TR M i) (hk : k < 9) (hw : 1 ≤ w ∧ w ≤ 50) (hbi : i32 bi) (hbj : i32 bj) : Cm l yX4_isIn cX4_isIn 7 (some .boolean) 1 22 [vR (2 + 2 * i), vI (k : Int), vI w, vI bi, vI bj] M (rB ((8 * M (2 + 2 * i) 0 + M (2 + 2 * i) 3 * (k : Int)) / (8 * w) = bi ∧ (8 * M (2 + 2 * i) 1 + M (2 + 2 * i) 4 * (k : Int)) / (8 * w) = bj) M) := by
  refine cmo [some (vR (2 + 2 * i)), some (vI (k : Int)), some (vI w), some (vI bi), some (vI bj), none, none] ?_
  obtain ⟨a0, a1, a2, a3, a4, a5, a6, a7⟩ := id hA
  have p0 := mb (x := M (2 + 2 * i) 3) (z := (k : Int)) 200 8 (by omega) (by omega)
  have p1 := mb (x := M (2 + 2 * i) 4) (z := (k : Int)) 200 8 (by omega) (by omega)
  have q0 := ed_bd (a := 8 * M (2 + 2 * i) 0 + M (2 + 2 * i) 3 * (k : Int)) (b := 8 * w) (c := 3000) (by omega) (by omega) (by omega)
  have q1 := ed_bd (a := 8 * M (2 + 2 * i) 1 + M (2 + 2 * i) 4 * (k : Int)) (b := 8 * w) (c := 3000) (by omega) (by omega) (by omega)
  refine ev_iload_n dX4_isIn_0 rfl ?_
  refine ev_if_gt 6 dX4_isIn_1 (by omega) (fun c1 => ?_) (fun c1 => ?_)
  · refine ev_bipush dX4_isIn_6 (by decide) ?_
    refine ev_aload_n dX4_isIn_8 rfl ?_
    refine em_getI fX4_16.g dX4_isIn_9 (lay_trk (i := i) (by omega)) rfl ?_
    refine ev_imul dX4_isIn_12 ?_
    refine ev_aload_n dX4_isIn_13 rfl ?_
    refine em_getI fX4_26.g dX4_isIn_14 (lay_trk (i := i) (by omega)) rfl ?_
    refine ev_iload_n dX4_isIn_17 rfl ?_
    refine ev_imul dX4_isIn_18 ?_
    refine ev_iadd dX4_isIn_19 ?_
    refine ev_istore dX4_isIn_20 (by decide) ?_
    refine ev_ls [some (vR _), some (vI _), some (vI _), some (vI _), some (vI _), some (vI _), none] rfl ?_
    refine ev_bipush dX4_isIn_22 (by decide) ?_
    refine ev_aload_n dX4_isIn_24 rfl ?_
    refine em_getI fX4_20.g dX4_isIn_25 (lay_trk (i := i) (by omega)) rfl ?_
    refine ev_imul dX4_isIn_28 ?_
    refine ev_aload_n dX4_isIn_29 rfl ?_
    refine em_getI fX4_29.g dX4_isIn_30 (lay_trk (i := i) (by omega)) rfl ?_
    refine ev_iload_n dX4_isIn_33 rfl ?_
    refine ev_imul dX4_isIn_34 ?_
    refine ev_iadd dX4_isIn_35 ?_
    refine ev_istore dX4_isIn_36 (by decide) ?_
    refine ev_ls [some (vR _), some (vI _), some (vI _), some (vI _), some (vI _), some (vI _), some (vI _)] rfl ?_
    refine ev_iload dX4_isIn_38 rfl ?_
    refine ev_bipush dX4_isIn_40 (by decide) ?_
    refine ev_iload_n dX4_isIn_42 rfl ?_
    refine ev_imul dX4_isIn_43 ?_
    refine em_S2 (c_fdI l _ (by omega) (by omega) (by omega)) mX4_43 dX4_isIn_44 ?_
    rintro r M ⟨rfl, rfl⟩
    refine ev_iload_n dX4_isIn_47 rfl ?_
    refine ev_icmp_ne 69 dX4_isIn_48 (by omega) (by omega) (fun c48 => ?_) (fun c48 => ?_)
    · refine ev_iconst dX4_isIn_69 ?_
      first | exact em_zret dX4_isIn_70 (by omega) ⟨rfl, _, rfl, by omega⟩ | omega
    · refine ev_iload dX4_isIn_51 rfl ?_
      refine ev_bipush dX4_isIn_53 (by decide) ?_
      refine ev_iload_n dX4_isIn_55 rfl ?_
      refine ev_imul dX4_isIn_56 ?_
      refine em_S2 (c_fdI l _ (by omega) (by omega) (by omega)) mX4_43 dX4_isIn_57 ?_
      rintro r M ⟨rfl, rfl⟩
      refine ev_iload dX4_isIn_60 rfl ?_
      refine ev_icmp_ne 69 dX4_isIn_62 (by omega) (by omega) (fun c62 => ?_) (fun c62 => ?_)
      · refine ev_iconst dX4_isIn_69 ?_
        first | exact em_zret dX4_isIn_70 (by omega) ⟨rfl, _, rfl, by omega⟩ | omega
      · refine ev_iconst dX4_isIn_65 ?_
        refine ev_goto 70 dX4_isIn_66 ?_
        first | exact em_zret dX4_isIn_70 (by omega) ⟨rfl, _, rfl, by omega⟩ | omega
  · refine ev_iconst dX4_isIn_4 ?_
    first | exact em_zret dX4_isIn_5 (by omega) ⟨rfl, _, rfl, by omega⟩ | omega
set_option maxRecDepth 100000 in
set_option maxHeartbeats 4000000 in
theorem c_readingsIn (l : Launch) {M : Mem} {i : Nat} {w bi bj : Int} (hi : i < 8) (hA : TR M i) (hw : 1 ≤ w ∧ w ≤ 50) (hbi : i32 bi) (hbj : i32 bj) : Cm l yX4_readingsIn cX4_readingsIn 6 (some .int) 2 48 [vR (2 + 2 * i), vI w, vI bi, vI bj] M (rI (cntB (M (2 + 2 * i)) (M (2 + 2 * i + 1)) w bi bj 9) M) := by
  refine cmo [some (vR (2 + 2 * i)), some (vI w), some (vI bi), some (vI bj), none, none] ?_
  have hx := hA.2.2.2.2.2.2.2
  have loop : ∀ (n k : Nat), k + n = 9 → Em l yX4_readingsIn cX4_readingsIn 6 (some .int) 2 48 (rI (cntB (M (2 + 2 * i)) (M (2 + 2 * i + 1)) w bi bj 9) M) 6 [some (vR (2 + 2 * i)), some (vI w), some (vI bi), some (vI bj), some (vI (cntB (M (2 + 2 * i)) (M (2 + 2 * i + 1)) w bi bj k)), some (vI (k : Int))] [] M := by
    intro n
    induction n with
    | zero =>
      intro k hk
      have hbd := cntB_bd (M (2 + 2 * i)) (M (2 + 2 * i + 1)) w bi bj k
      refine ev_iload dX4_readingsIn_6 rfl ?_
      refine ev_bipush dX4_readingsIn_8 (by decide) ?_
      refine ev_icmp_ge 46 dX4_readingsIn_10 (by omega) (by omega) (fun c1 => ?_) (fun c1 => ?_)
      · refine ev_iload dX4_readingsIn_46 rfl ?_
        first | (have e9 : k = 9 := by omega); subst e9; exact em_iret dX4_readingsIn_48 ⟨rfl, rfl⟩ | omega
      · omega
    | succ n ih =>
      intro k hk
      have hbd := cntB_bd (M (2 + 2 * i)) (M (2 + 2 * i + 1)) w bi bj k
      refine ev_iload dX4_readingsIn_6 rfl ?_
      refine ev_bipush dX4_readingsIn_8 (by decide) ?_
      refine ev_icmp_ge 46 dX4_readingsIn_10 (by omega) (by omega) (fun c1 => ?_) (fun c1 => ?_)
      · omega
      · have hxk := hx k (by omega)
        refine ev_aload_n dX4_readingsIn_13 rfl ?_
        refine em_getR fX4_9.g dX4_readingsIn_14 (lay_trk (i := i) (by omega)) rfl ?_
        refine ev_iload dX4_readingsIn_17 rfl ?_
        refine en_iald k dX4_readingsIn_19 (lay_hts (i := i) (by omega)) (by omega) (by omega) ?_
        refine ev_ldc (200000) kX4_15 dX4_readingsIn_20 (by decide) ?_
        refine ev_icmp_eq 40 dX4_readingsIn_22 (by omega) (by omega) (fun c22 => ?_) (fun c22 => ?_)
        · refine ev_iinc dX4_readingsIn_40 rfl (by decide) ?_
          refine ev_ls [some (vR _), some (vI _), some (vI _), some (vI _), some (vI _), some (vI _)] rfl ?_
          refine ev_goto 6 dX4_readingsIn_43 ?_
          have hst := ih (k + 1) (by omega)
          rw [show cntB (M (2 + 2 * i)) (M (2 + 2 * i + 1)) w bi bj (k + 1) = cntB (M (2 + 2 * i)) (M (2 + 2 * i + 1)) w bi bj k + (if inB (M (2 + 2 * i)) (M (2 + 2 * i + 1)) w bi bj k then _ else 0) from rfl] at hst
          first | (rw [if_pos (by constructor <;> omega)] at hst; exact hst) | (rw [if_neg (by intro q; have q1 := q.1; have q2 := q.2; omega), Int.add_zero] at hst; exact hst)
        · refine ev_aload_n dX4_readingsIn_25 rfl ?_
          refine ev_iload dX4_readingsIn_26 rfl ?_
          refine ev_iload_n dX4_readingsIn_28 rfl ?_
          refine ev_iload_n dX4_readingsIn_29 rfl ?_
          refine ev_iload_n dX4_readingsIn_30 rfl ?_
          refine em_V4 (c_isIn l (by omega) hA (by omega) (by omega) (by omega) (by omega)) mX4_39 dX4_readingsIn_31 (lay_trk (i := i) (by omega)) ?_
          rintro r M ⟨rfl, z31, rfl, h31⟩
          refine ev_if_eq 40 dX4_readingsIn_34 (by omega) (fun c34 => ?_) (fun c34 => ?_)
          · refine ev_iinc dX4_readingsIn_40 rfl (by decide) ?_
            refine ev_ls [some (vR _), some (vI _), some (vI _), some (vI _), some (vI _), some (vI _)] rfl ?_
            refine ev_goto 6 dX4_readingsIn_43 ?_
            have hst := ih (k + 1) (by omega)
            rw [show cntB (M (2 + 2 * i)) (M (2 + 2 * i + 1)) w bi bj (k + 1) = cntB (M (2 + 2 * i)) (M (2 + 2 * i + 1)) w bi bj k + (if inB (M (2 + 2 * i)) (M (2 + 2 * i + 1)) w bi bj k then _ else 0) from rfl] at hst
            first | (rw [if_pos (by constructor <;> omega)] at hst; exact hst) | (rw [if_neg (by intro q; have q1 := q.1; have q2 := q.2; omega), Int.add_zero] at hst; exact hst)
          · refine ev_iinc dX4_readingsIn_37 rfl (by decide) ?_
            refine ev_ls [some (vR _), some (vI _), some (vI _), some (vI _), some (vI _), some (vI _)] rfl ?_
            refine ev_iinc dX4_readingsIn_40 rfl (by decide) ?_
            refine ev_ls [some (vR _), some (vI _), some (vI _), some (vI _), some (vI _), some (vI _)] rfl ?_
            refine ev_goto 6 dX4_readingsIn_43 ?_
            have hst := ih (k + 1) (by omega)
            rw [show cntB (M (2 + 2 * i)) (M (2 + 2 * i + 1)) w bi bj (k + 1) = cntB (M (2 + 2 * i)) (M (2 + 2 * i + 1)) w bi bj k + (if inB (M (2 + 2 * i)) (M (2 + 2 * i + 1)) w bi bj k then _ else 0) from rfl] at hst
            first | (rw [if_pos (by constructor <;> omega)] at hst; exact hst) | (rw [if_neg (by intro q; have q1 := q.1; have q2 := q.2; omega), Int.add_zero] at hst; exact hst)
  refine ev_iconst dX4_readingsIn_0 ?_
  refine ev_istore dX4_readingsIn_1 (by decide) ?_
  refine ev_ls [some (vR _), some (vI _), some (vI _), some (vI _), some (vI _), none] rfl ?_
  refine ev_iconst dX4_readingsIn_3 ?_
  refine ev_istore dX4_readingsIn_4 (by decide) ?_
  refine ev_ls [some (vR _), some (vI _), some (vI _), some (vI _), some (vI _), some (vI _)] rfl ?_
  exact loop 9 0 rfl
set_option maxRecDepth 100000 in
set_option maxHeartbeats 4000000 in
theorem c_heightsIn (l : Launch) {M : Mem} {i : Nat} {w bi bj : Int} (hi : i < 8) (hA : TR M i) (hw : 1 ≤ w ∧ w ≤ 50) (hbi : i32 bi) (hbj : i32 bj) : Cm l yX4_heightsIn cX4_heightsIn 7 (some .long) 2 48 [vR (2 + 2 * i), vI w, vI bi, vI bj] M (rL (sumB (M (2 + 2 * i)) (M (2 + 2 * i + 1)) w bi bj 9) M) := by
  refine cmo [some (vR (2 + 2 * i)), some (vI w), some (vI bi), some (vI bj), none, none, none] ?_
  have hx := hA.2.2.2.2.2.2.2
  have loop : ∀ (n k : Nat), k + n = 9 → Em l yX4_heightsIn cX4_heightsIn 7 (some .long) 2 48 (rL (sumB (M (2 + 2 * i)) (M (2 + 2 * i + 1)) w bi bj 9) M) 6 [some (vR (2 + 2 * i)), some (vI w), some (vI bi), some (vI bj), some (vL (sumB (M (2 + 2 * i)) (M (2 + 2 * i + 1)) w bi bj k)), none, some (vI (k : Int))] [] M := by
    intro n
    induction n with
    | zero =>
      intro k hk
      have hbd := sumB_bd (A := (M (2 + 2 * i))) hx w bi bj k (by omega)
      refine ev_iload dX4_heightsIn_6 rfl ?_
      refine ev_bipush dX4_heightsIn_8 (by decide) ?_
      refine ev_icmp_ge 56 dX4_heightsIn_10 (by omega) (by omega) (fun c1 => ?_) (fun c1 => ?_)
      · refine ev_lload dX4_heightsIn_56 rfl ?_
        first | (have e9 : k = 9 := by omega); subst e9; exact em_lret dX4_heightsIn_58 ⟨rfl, rfl⟩ | omega
      · omega
    | succ n ih =>
      intro k hk
      have hbd := sumB_bd (A := (M (2 + 2 * i))) hx w bi bj k (by omega)
      refine ev_iload dX4_heightsIn_6 rfl ?_
      refine ev_bipush dX4_heightsIn_8 (by decide) ?_
      refine ev_icmp_ge 56 dX4_heightsIn_10 (by omega) (by omega) (fun c1 => ?_) (fun c1 => ?_)
      · omega
      · have hxk := hx k (by omega)
        refine ev_aload_n dX4_heightsIn_13 rfl ?_
        refine em_getR fX4_9.g dX4_heightsIn_14 (lay_trk (i := i) (by omega)) rfl ?_
        refine ev_iload dX4_heightsIn_17 rfl ?_
        refine en_iald k dX4_heightsIn_19 (lay_hts (i := i) (by omega)) (by omega) (by omega) ?_
        refine ev_ldc (200000) kX4_15 dX4_heightsIn_20 (by decide) ?_
        refine ev_icmp_eq 50 dX4_heightsIn_22 (by omega) (by omega) (fun c22 => ?_) (fun c22 => ?_)
        · refine ev_iinc dX4_heightsIn_50 rfl (by decide) ?_
          refine ev_ls [some (vR _), some (vI _), some (vI _), some (vI _), some (vL _), none, some (vI _)] rfl ?_
          refine ev_goto 6 dX4_heightsIn_53 ?_
          have hst := ih (k + 1) (by omega)
          rw [show sumB (M (2 + 2 * i)) (M (2 + 2 * i + 1)) w bi bj (k + 1) = sumB (M (2 + 2 * i)) (M (2 + 2 * i + 1)) w bi bj k + (if inB (M (2 + 2 * i)) (M (2 + 2 * i + 1)) w bi bj k then _ else 0) from rfl] at hst
          first | (rw [if_pos (by constructor <;> omega)] at hst; exact hst) | (rw [if_neg (by intro q; have q1 := q.1; have q2 := q.2; omega), Int.add_zero] at hst; exact hst)
        · refine ev_aload_n dX4_heightsIn_25 rfl ?_
          refine ev_iload dX4_heightsIn_26 rfl ?_
          refine ev_iload_n dX4_heightsIn_28 rfl ?_
          refine ev_iload_n dX4_heightsIn_29 rfl ?_
          refine ev_iload_n dX4_heightsIn_30 rfl ?_
          refine em_V4 (c_isIn l (by omega) hA (by omega) (by omega) (by omega) (by omega)) mX4_39 dX4_heightsIn_31 (lay_trk (i := i) (by omega)) ?_
          rintro r M ⟨rfl, z31, rfl, h31⟩
          refine ev_if_eq 50 dX4_heightsIn_34 (by omega) (fun c34 => ?_) (fun c34 => ?_)
          · refine ev_iinc dX4_heightsIn_50 rfl (by decide) ?_
            refine ev_ls [some (vR _), some (vI _), some (vI _), some (vI _), some (vL _), none, some (vI _)] rfl ?_
            refine ev_goto 6 dX4_heightsIn_53 ?_
            have hst := ih (k + 1) (by omega)
            rw [show sumB (M (2 + 2 * i)) (M (2 + 2 * i + 1)) w bi bj (k + 1) = sumB (M (2 + 2 * i)) (M (2 + 2 * i + 1)) w bi bj k + (if inB (M (2 + 2 * i)) (M (2 + 2 * i + 1)) w bi bj k then _ else 0) from rfl] at hst
            first | (rw [if_pos (by constructor <;> omega)] at hst; exact hst) | (rw [if_neg (by intro q; have q1 := q.1; have q2 := q.2; omega), Int.add_zero] at hst; exact hst)
          · refine ev_lload dX4_heightsIn_37 rfl ?_
            refine ev_aload_n dX4_heightsIn_39 rfl ?_
            refine em_getR fX4_9.g dX4_heightsIn_40 (lay_trk (i := i) (by omega)) rfl ?_
            refine ev_iload dX4_heightsIn_43 rfl ?_
            refine en_iald k dX4_heightsIn_45 (lay_hts (i := i) (by omega)) (by omega) (by omega) ?_
            refine ev_i2l dX4_heightsIn_46 (by omega) ?_
            refine ev_ladd dX4_heightsIn_47 ?_
            refine ev_lstore dX4_heightsIn_48 (by decide) ?_
            refine ev_ls [some (vR _), some (vI _), some (vI _), some (vI _), some (vL _), none, some (vI _)] rfl ?_
            refine ev_iinc dX4_heightsIn_50 rfl (by decide) ?_
            refine ev_ls [some (vR _), some (vI _), some (vI _), some (vI _), some (vL _), none, some (vI _)] rfl ?_
            refine ev_goto 6 dX4_heightsIn_53 ?_
            have hst := ih (k + 1) (by omega)
            rw [show sumB (M (2 + 2 * i)) (M (2 + 2 * i + 1)) w bi bj (k + 1) = sumB (M (2 + 2 * i)) (M (2 + 2 * i + 1)) w bi bj k + (if inB (M (2 + 2 * i)) (M (2 + 2 * i + 1)) w bi bj k then _ else 0) from rfl] at hst
            first | (rw [if_pos (by constructor <;> omega)] at hst; exact hst) | (rw [if_neg (by intro q; have q1 := q.1; have q2 := q.2; omega), Int.add_zero] at hst; exact hst)
  refine ev_lconst0 dX4_heightsIn_0 ?_
  refine ev_lstore dX4_heightsIn_1 (by decide) ?_
  refine ev_ls [some (vR _), some (vI _), some (vI _), some (vI _), some (vL _), none, none] rfl ?_
  refine ev_iconst dX4_heightsIn_3 ?_
  refine ev_istore dX4_heightsIn_4 (by decide) ?_
  refine ev_ls [some (vR _), some (vI _), some (vI _), some (vI _), some (vL _), none, some (vI _)] rfl ?_
  exact loop 9 0 rfl
set_option maxRecDepth 100000 in
set_option maxHeartbeats 4000000 in
theorem c_distance (l : Launch) {M : Mem} {i : Nat} {r : Int} (hi : i < 6) (hp : 1 ≤ M 51 i ∧ M 51 i ≤ 1000000) (hr : 1 ≤ r ∧ r ≤ 1000000) : Cm l yX3_distance cX3_distance 5 (some .long) 1 21 [vR 50, vI (i : Int), vI r] M (rL (dst (M 51 i) r) M) := by
  refine cmo [some (vR 50), some (vI (i : Int)), some (vI r), none, none] ?_
  have e1 : r.tmod (M 51 i) = r % M 51 i := Int.tmod_eq_emod_of_nonneg (by omega)
  have e2 := Int.emod_nonneg r (show M 51 i ≠ 0 by omega)
  have e3 := Int.emod_lt_of_pos r (show 0 < M 51 i by omega)
  refine ev_aload_n dX3_distance_0 rfl ?_
  refine em_getR fX3_9.g dX3_distance_1 lay_50 rfl ?_
  refine ev_iload_n dX3_distance_4 rfl ?_
  refine en_iald i dX3_distance_5 lay_51 (by omega) (by omega) ?_
  refine ev_istore_n dX3_distance_6 (by decide) ?_
  refine ev_ls [some (vR _), some (vI _), some (vI _), some (vI _), none] rfl ?_
  refine ev_iload_n dX3_distance_7 rfl ?_
  refine ev_if_gt 13 dX3_distance_8 (by omega) (fun c8 => ?_) (fun c8 => ?_)
  · refine ev_iload_n dX3_distance_13 rfl ?_
    refine ev_iload_n dX3_distance_14 rfl ?_
    refine ev_irem dX3_distance_15 (by omega) (by omega) (by omega) ?_
    rw [e1]
    refine ev_istore dX3_distance_16 (by decide) ?_
    refine ev_ls [some (vR _), some (vI _), some (vI _), some (vI _), some (vI _)] rfl ?_
    refine ev_iload dX3_distance_18 rfl ?_
    refine ev_iload_n dX3_distance_20 rfl ?_
    refine ev_iload dX3_distance_21 rfl ?_
    refine ev_isub dX3_distance_23 ?_
    refine em_S2 (c_mmin l _ (by omega) (by omega)) mX3_19 dX3_distance_24 ?_
    rintro r M ⟨rfl, rfl⟩
    refine ev_i2l dX3_distance_27 (by omega) ?_
    first | exact em_lret dX3_distance_28 ⟨rfl, rfl⟩ | omega
  · refine ev_lconst0 dX3_distance_11 ?_
    first | exact em_lret dX3_distance_12 ⟨rfl, rfl⟩ | omega
theorem dst_bd {p r : Int} (hp : 1 ≤ p) : 0 ≤ dst p r ∧ dst p r ≤ p := by
  have e2 := Int.emod_nonneg r (show p ≠ 0 by omega)
  have e3 := Int.emod_lt_of_pos r (show 0 < p by omega)
  unfold dst
  omega
set_option maxRecDepth 100000 in
set_option maxHeartbeats 4000000 in
theorem c_areToldApart (l : Launch) {M : Mem} {i j : Nat} {r yy : Int} (hi : i < 6) (hj : j < 6) (hp : 1 ≤ M 51 i ∧ M 51 i ≤ 1000000) (hq : 1 ≤ M 51 j ∧ M 51 j ≤ 1000000) (hr : 1 ≤ r ∧ r ≤ 1000000) (hy : 1 ≤ yy ∧ yy ≤ 100000) : Cm l yX3_areToldApart cX3_areToldApart 13 (some .boolean) 2 45 [vR 50, vI (i : Int), vI (j : Int), vI r, vI yy] M (rB (-((-(M 51 i * M 51 j * r)) / (1000 * yy)) ≤ (if dst (M 51 i) r * M 51 j - dst (M 51 j) r * M 51 i < 0 then -(dst (M 51 i) r * M 51 j - dst (M 51 j) r * M 51 i) else dst (M 51 i) r * M 51 j - dst (M 51 j) r * M 51 i)) M) := by
  refine cmo [some (vR 50), some (vI (i : Int)), some (vI (j : Int)), some (vI r), some (vI yy), none, none, none, none, none, none, none, none] ?_
  have d1 := dst_bd (p := M 51 i) (r := r) (by omega)
  have d2 := dst_bd (p := M 51 j) (r := r) (by omega)
  have p1 := mb (x := dst (M 51 i) r) (z := M 51 j) 1000000 1000000 (by omega) (by omega)
  have p2 := mb (x := dst (M 51 j) r) (z := M 51 i) 1000000 1000000 (by omega) (by omega)
  have p3 := mb (x := M 51 i) (z := M 51 j) 1000000 1000000 (by omega) (by omega)
  have p4 := mb (x := M 51 i * M 51 j) (z := r) 1000000000000 1000000 (by omega) (by omega)
  have q0 := ed_bd (a := -(M 51 i * M 51 j * r)) (b := 1000 * yy) (c := 1000000000000000000) (by omega) (by omega) (by omega)
  have q1 : i64 (if dst (M 51 i) r * M 51 j - dst (M 51 j) r * M 51 i < 0 then -(dst (M 51 i) r * M 51 j - dst (M 51 j) r * M 51 i) else dst (M 51 i) r * M 51 j - dst (M 51 j) r * M 51 i) := by split <;> omega
  refine ev_aload_n dX3_areToldApart_0 rfl ?_
  refine ev_iload_n dX3_areToldApart_1 rfl ?_
  refine ev_iload_n dX3_areToldApart_2 rfl ?_
  refine em_V2 (c_distance l (by omega) (by omega) (by omega)) mX3_25 dX3_areToldApart_3 lay_50 ?_
  rintro r M ⟨rfl, rfl⟩
  refine ev_aload_n dX3_areToldApart_6 rfl ?_
  refine em_getR fX3_9.g dX3_areToldApart_7 lay_50 rfl ?_
  refine ev_iload_n dX3_areToldApart_10 rfl ?_
  refine en_iald j dX3_areToldApart_11 lay_51 (by omega) (by omega) ?_
  refine ev_i2l dX3_areToldApart_12 (by omega) ?_
  refine ev_lmul dX3_areToldApart_13 ?_
  refine ev_lstore dX3_areToldApart_14 (by decide) ?_
  refine ev_ls [some (vR _), some (vI _), some (vI _), some (vI _), some (vI _), some (vL _), none, none, none, none, none, none, none] rfl ?_
  refine ev_aload_n dX3_areToldApart_16 rfl ?_
  refine ev_iload_n dX3_areToldApart_17 rfl ?_
  refine ev_iload_n dX3_areToldApart_18 rfl ?_
  refine em_V2 (c_distance l (by omega) (by omega) (by omega)) mX3_25 dX3_areToldApart_19 lay_50 ?_
  rintro r M ⟨rfl, rfl⟩
  refine ev_aload_n dX3_areToldApart_22 rfl ?_
  refine em_getR fX3_9.g dX3_areToldApart_23 lay_50 rfl ?_
  refine ev_iload_n dX3_areToldApart_26 rfl ?_
  refine en_iald i dX3_areToldApart_27 lay_51 (by omega) (by omega) ?_
  refine ev_i2l dX3_areToldApart_28 (by omega) ?_
  refine ev_lmul dX3_areToldApart_29 ?_
  refine ev_lstore dX3_areToldApart_30 (by decide) ?_
  refine ev_ls [some (vR _), some (vI _), some (vI _), some (vI _), some (vI _), some (vL _), none, some (vL _), none, none, none, none, none] rfl ?_
  refine ev_ldc2 (1000) kX3_29 dX3_areToldApart_32 (by decide) ?_
  refine ev_iload dX3_areToldApart_35 rfl ?_
  refine ev_i2l dX3_areToldApart_37 (by omega) ?_
  refine ev_lmul dX3_areToldApart_38 ?_
  refine ev_lstore dX3_areToldApart_39 (by decide) ?_
  refine ev_ls [some (vR _), some (vI _), some (vI _), some (vI _), some (vI _), some (vL _), none, some (vL _), none, some (vL _), none, none, none] rfl ?_
  refine ev_lload dX3_areToldApart_41 rfl ?_
  refine ev_lconst0 dX3_areToldApart_43 ?_
  refine ev_lcmp_gt 50 dX3_areToldApart_44 dX3_areToldApart_45 (by omega) (by omega) (fun c44 => ?_) (fun c44 => ?_)
  · refine ev_aload_n dX3_areToldApart_50 rfl ?_
    refine em_getR fX3_9.g dX3_areToldApart_51 lay_50 rfl ?_
    refine ev_iload_n dX3_areToldApart_54 rfl ?_
    refine en_iald i dX3_areToldApart_55 lay_51 (by omega) (by omega) ?_
    refine ev_i2l dX3_areToldApart_56 (by omega) ?_
    refine ev_aload_n dX3_areToldApart_57 rfl ?_
    refine em_getR fX3_9.g dX3_areToldApart_58 lay_50 rfl ?_
    refine ev_iload_n dX3_areToldApart_61 rfl ?_
    refine en_iald j dX3_areToldApart_62 lay_51 (by omega) (by omega) ?_
    refine ev_i2l dX3_areToldApart_63 (by omega) ?_
    refine ev_lmul dX3_areToldApart_64 ?_
    refine ev_iload_n dX3_areToldApart_65 rfl ?_
    refine ev_i2l dX3_areToldApart_66 (by omega) ?_
    refine ev_lmul dX3_areToldApart_67 ?_
    refine ev_lstore dX3_areToldApart_68 (by decide) ?_
    refine ev_ls [some (vR _), some (vI _), some (vI _), some (vI _), some (vI _), some (vL _), none, some (vL _), none, some (vL _), none, some (vL _), none] rfl ?_
    refine ev_lload dX3_areToldApart_70 rfl ?_
    refine ev_lload dX3_areToldApart_72 rfl ?_
    refine ev_lsub dX3_areToldApart_74 ?_
    refine em_S1 (c_mabs l _ (by omega)) mX3_31 dX3_areToldApart_75 ?_
    rintro r M ⟨rfl, rfl⟩
    refine ev_lload dX3_areToldApart_78 rfl ?_
    refine ev_lneg dX3_areToldApart_80 ?_
    refine ev_lload dX3_areToldApart_81 rfl ?_
    refine em_S2 (c_fdL l _ (by omega) (by omega) (by omega)) mX3_35 dX3_areToldApart_83 ?_
    rintro r M ⟨rfl, rfl⟩
    refine ev_lneg dX3_areToldApart_86 ?_
    refine ev_lcmp_lt 95 dX3_areToldApart_87 dX3_areToldApart_88 (by omega) (by omega) (fun c87 => ?_) (fun c87 => ?_)
    · refine ev_iconst dX3_areToldApart_95 ?_
      first | exact em_zret dX3_areToldApart_96 (by omega) ⟨rfl, _, rfl, by first | exact Or.inl ⟨rfl, by omega⟩ | exact Or.inr ⟨rfl, by omega⟩⟩ | omega
    · refine ev_iconst dX3_areToldApart_91 ?_
      refine ev_goto 96 dX3_areToldApart_92 ?_
      first | exact em_zret dX3_areToldApart_96 (by omega) ⟨rfl, _, rfl, by first | exact Or.inl ⟨rfl, by omega⟩ | exact Or.inr ⟨rfl, by omega⟩⟩ | omega
  · refine ev_iconst dX3_areToldApart_48 ?_
    first | exact em_zret dX3_areToldApart_49 (by omega) ⟨rfl, _, rfl, by first | exact Or.inl ⟨rfl, by omega⟩ | exact Or.inr ⟨rfl, by omega⟩⟩ | omega
