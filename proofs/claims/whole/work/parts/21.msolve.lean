/-- one step of the model's elimination -/
def cl (m : Nat → Nat → Int) (c n : Nat) (last : Int) (r k : Nat) : Int := if c < r ∧ r < n ∧ k < n ∧ (k = 0 ∨ c ≤ k) then (m r k * m c c - m r c * m c k).tdiv last else m r k
theorem up2_60 {M : Mem} {a b r k : Nat} {x : Int} (ha : a < 8) (hb : b < 8) (hr : r < 8) (hk : k < 8) : up2 M 60 (8 * r + k) x 60 (8 * a + b) = if a = r ∧ b = k then x else M 60 (8 * a + b) := by
  rw [up2_at]
  by_cases h : a = r ∧ b = k
  · rw [if_pos h, if_pos ⟨rfl, by omega⟩]
  · rw [if_neg h, if_neg (by omega)]
set_option maxRecDepth 100000 in
set_option maxHeartbeats 4000000 in
theorem d_clears (l : Launch) {M : Mem} {c n : Nat} {last : Int} (hc : c < n) (hn : n ≤ 8) (hl : i64 last) (hl0 : last ≠ 0) (hR : ∀ r k, c < r → r < n → k < n → (k = 0 ∨ c ≤ k) → i64 (M 60 (8 * r + k) * M 60 (8 * c + c) - M 60 (8 * r + c) * M 60 (8 * c + k))) : Cm l yX6_clears cX6_clears 9 none 0 0 [vR 53, vI (c : Int), vI (n : Int), vL last] M (fun r M' => r = none ∧ (∀ k, k ≠ 60 → M' k = M k) ∧ ∀ r k, r < 8 → k < 8 → M' 60 (8 * r + k) = cl (fun a b => M 60 (8 * a + b)) c n last r k) := by
  refine cmo [some (vR 53), some (vI (c : Int)), some (vI (n : Int)), some (vL last), none, none, none, none, none] ?_
  have outer : ∀ (m1 : Nat) (r : Nat) (M1 : Mem), n < r + m1 → r ≤ n → c < r → (∀ q, q ≠ 60 → M1 q = M q) → (∀ a b, a < 8 → b < 8 → M1 60 (8 * a + b) = if a < r then cl (fun a b => M 60 (8 * a + b)) c n last a b else M 60 (8 * a + b)) → Em l yX6_clears cX6_clears 9 none 0 0 (fun r M' => r = none ∧ (∀ k, k ≠ 60 → M' k = M k) ∧ ∀ r k, r < 8 → k < 8 → M' 60 (8 * r + k) = cl (fun a b => M 60 (8 * a + b)) c n last r k) 5 [some (vR 53), some (vI (c : Int)), some (vI (n : Int)), some (vL last), none, some (vI (r : Int)), none, none, none] [] M1 := by
    intro m1
    induction m1 with
    | zero => intro r M1 h1 h2 hcr hk1 hm1; omega
    | succ m1 ihouter =>
      intro r M1 h1 h2 hcr hk1 hm1
      refine ev_iload dX6_clears_5 rfl ?_
      refine ev_iload_n dX6_clears_7 rfl ?_
      refine ev_icmp_ge 113 dX6_clears_8 (by omega) (by omega) (fun c1 => ?_) (fun c1 => ?_)
      · exact em_vret dX6_clears_113 ⟨rfl, hk1, fun a b ha hb => by rw [hm1 a b ha hb]; split; rfl; unfold cl; rw [if_neg (by omega)]⟩
      · have hrc : M1 60 (8 * r + c) = M 60 (8 * r + c) := by rw [hm1 r c (by omega) (by omega), if_neg (by omega)]
        refine ev_aload_n dX6_clears_11 rfl ?_
        refine em_getR fX6_29.g dX6_clears_12 lay_53 rfl ?_
        refine ev_bipush dX6_clears_15 (by decide) ?_
        refine ev_iload dX6_clears_17 rfl ?_
        refine ev_imul dX6_clears_19 ?_
        refine ev_iload_n dX6_clears_20 rfl ?_
        refine ev_iadd dX6_clears_21 ?_
        refine en_lald ((8 * r) + c) dX6_clears_22 lay_60 (by omega) (by omega) ?_
        rw [hrc]
        refine ev_lstore dX6_clears_23 (by decide) ?_
        refine ev_ls [some (vR _), some (vI _), some (vI _), some (vL _), none, some (vI _), some (vL _), none, none] rfl ?_
        refine ev_iconst dX6_clears_25 ?_
        refine ev_istore dX6_clears_26 (by decide) ?_
        refine ev_ls [some (vR _), some (vI _), some (vI _), some (vL _), none, some (vI _), some (vL _), none, some (vI _)] rfl ?_
        have inner : ∀ (m2 : Nat) (k : Nat) (M2 : Mem), n < k + m2 → k ≤ n → (∀ q, q ≠ 60 → M2 q = M q) → (∀ a b, a < 8 → b < 8 → M2 60 (8 * a + b) = if a < r ∨ (a = r ∧ b < k) then cl (fun a b => M 60 (8 * a + b)) c n last a b else M 60 (8 * a + b)) → Em l yX6_clears cX6_clears 9 none 0 0 (fun r M' => r = none ∧ (∀ k, k ≠ 60 → M' k = M k) ∧ ∀ r k, r < 8 → k < 8 → M' 60 (8 * r + k) = cl (fun a b => M 60 (8 * a + b)) c n last r k) 28 [some (vR 53), some (vI (c : Int)), some (vI (n : Int)), some (vL last), none, some (vI (r : Int)), some (vL (M 60 (8 * r + c))), none, some (vI (k : Int))] [] M2 := by
          intro m2
          induction m2 with
          | zero => intro k M2 h1 h2 hk2 hm2; omega
          | succ m2 ihinner =>
            intro k M2 h1 h2 hk2 hm2
            refine ev_iload dX6_clears_28 rfl ?_
            refine ev_iload_n dX6_clears_30 rfl ?_
            refine ev_icmp_ge 107 dX6_clears_31 (by omega) (by omega) (fun c2 => ?_) (fun c2 => ?_)
            · refine ev_iinc dX6_clears_107 rfl (by decide) ?_
              refine ev_ls [some (vR _), some (vI _), some (vI _), some (vL _), none, some (vI _), some (vL _), none, some (vI _)] rfl ?_
              refine ev_goto 5 dX6_clears_110 ?_
              refine ev_mask [true, true, true, true, true, true, false, false, false] ?_
              exact ihouter (r + 1) M2 (by omega) (by omega) (by omega) hk2 (fun a b ha hb => by rw [hm2 a b ha hb]; by_cases q : a < r + 1; (rw [if_pos q]; by_cases q2 : a < r ∨ (a = r ∧ b < k); (rw [if_pos q2]); (rw [if_neg q2]; unfold cl; rw [if_neg (by omega)])); (rw [if_neg (by omega), if_neg q]))
            · refine ev_iload dX6_clears_34 rfl ?_
              refine ev_if_eq 45 dX6_clears_36 (by omega) (fun c36 => ?_) (fun c36 => ?_)
              · have e1 : M2 60 (8 * r + k) = M 60 (8 * r + k) := by rw [hm2 r k (by omega) (by omega), if_neg (by omega)]
                have e2 : M2 60 (8 * c + c) = M 60 (8 * c + c) := by rw [hm2 c c (by omega) (by omega), if_pos (by omega)]; unfold cl; rw [if_neg (by omega)]
                have e3 : M2 60 (8 * c + k) = M 60 (8 * c + k) := by rw [hm2 c k (by omega) (by omega), if_pos (by omega)]; unfold cl; rw [if_neg (by omega)]
                have hrng := hR r k (by omega) (by omega) (by omega) (by omega)
                refine ev_aload_n dX6_clears_45 rfl ?_
                refine em_getR fX6_29.g dX6_clears_46 lay_53 rfl ?_
                refine ev_bipush dX6_clears_49 (by decide) ?_
                refine ev_iload dX6_clears_51 rfl ?_
                refine ev_imul dX6_clears_53 ?_
                refine ev_iload dX6_clears_54 rfl ?_
                refine ev_iadd dX6_clears_56 ?_
                refine ev_aload_n dX6_clears_57 rfl ?_
                refine em_getR fX6_29.g dX6_clears_58 lay_53 rfl ?_
                refine ev_bipush dX6_clears_61 (by decide) ?_
                refine ev_iload dX6_clears_63 rfl ?_
                refine ev_imul dX6_clears_65 ?_
                refine ev_iload dX6_clears_66 rfl ?_
                refine ev_iadd dX6_clears_68 ?_
                refine en_lald ((8 * r) + k) dX6_clears_69 lay_60 (by omega) (by omega) ?_
                refine ev_aload_n dX6_clears_70 rfl ?_
                refine em_getR fX6_29.g dX6_clears_71 lay_53 rfl ?_
                refine ev_bipush dX6_clears_74 (by decide) ?_
                refine ev_iload_n dX6_clears_76 rfl ?_
                refine ev_imul dX6_clears_77 ?_
                refine ev_iload_n dX6_clears_78 rfl ?_
                refine ev_iadd dX6_clears_79 ?_
                refine en_lald ((8 * c) + c) dX6_clears_80 lay_60 (by omega) (by omega) ?_
                refine ev_lmul dX6_clears_81 ?_
                refine ev_lload dX6_clears_82 rfl ?_
                refine ev_aload_n dX6_clears_84 rfl ?_
                refine em_getR fX6_29.g dX6_clears_85 lay_53 rfl ?_
                refine ev_bipush dX6_clears_88 (by decide) ?_
                refine ev_iload_n dX6_clears_90 rfl ?_
                refine ev_imul dX6_clears_91 ?_
                refine ev_iload dX6_clears_92 rfl ?_
                refine ev_iadd dX6_clears_94 ?_
                refine en_lald ((8 * c) + k) dX6_clears_95 lay_60 (by omega) (by omega) ?_
                refine ev_lmul dX6_clears_96 ?_
                refine ev_lsub dX6_clears_97 ?_
                rw [e1, e2, e3]
                refine ev_lload_n dX6_clears_98 rfl ?_
                refine ev_ldiv dX6_clears_99 (by omega) (by omega) (by omega) ?_
                refine en_last ((8 * r) + k) dX6_clears_100 lay_60 (by omega) (by omega) ?_
                refine ev_iinc dX6_clears_101 rfl (by decide) ?_
                refine ev_ls [some (vR _), some (vI _), some (vI _), some (vL _), none, some (vI _), some (vL _), none, some (vI _)] rfl ?_
                refine ev_goto 28 dX6_clears_104 ?_
                exact ihinner (k + 1) _ (by omega) (by omega) (fun q hq => by rw [up2_row _ _ _ _ hq, hk2 q hq]) (fun a b ha hb => by rw [up2_60 ha hb (by omega) (by omega), hm2 a b ha hb]; by_cases q : a = r ∧ b = k; (rw [if_pos q, if_pos (by omega), q.1, q.2]; unfold cl; rw [if_pos (by omega)]); (rw [if_neg q]; by_cases q2 : a < r ∨ (a = r ∧ b < k); (rw [if_pos q2, if_pos (by omega)]); (rw [if_neg q2, if_neg (by omega)])))
              · refine ev_iload dX6_clears_39 rfl ?_
                refine ev_iload_n dX6_clears_41 rfl ?_
                refine ev_icmp_lt 101 dX6_clears_42 (by omega) (by omega) (fun c42 => ?_) (fun c42 => ?_)
                · refine ev_iinc dX6_clears_101 rfl (by decide) ?_
                  refine ev_ls [some (vR _), some (vI _), some (vI _), some (vL _), none, some (vI _), some (vL _), none, some (vI _)] rfl ?_
                  refine ev_goto 28 dX6_clears_104 ?_
                  exact ihinner (k + 1) M2 (by omega) (by omega) hk2 (fun a b ha hb => by rw [hm2 a b ha hb]; by_cases q : a < r ∨ (a = r ∧ b < k); (rw [if_pos q, if_pos (by omega)]); (rw [if_neg q]; by_cases q2 : a = r ∧ b = k; (rw [if_pos (by omega), q2.1, q2.2]; unfold cl; rw [if_neg (by omega)]); (rw [if_neg (by omega)])))
                · have e1 : M2 60 (8 * r + k) = M 60 (8 * r + k) := by rw [hm2 r k (by omega) (by omega), if_neg (by omega)]
                  have e2 : M2 60 (8 * c + c) = M 60 (8 * c + c) := by rw [hm2 c c (by omega) (by omega), if_pos (by omega)]; unfold cl; rw [if_neg (by omega)]
                  have e3 : M2 60 (8 * c + k) = M 60 (8 * c + k) := by rw [hm2 c k (by omega) (by omega), if_pos (by omega)]; unfold cl; rw [if_neg (by omega)]
                  have hrng := hR r k (by omega) (by omega) (by omega) (by omega)
                  refine ev_aload_n dX6_clears_45 rfl ?_
                  refine em_getR fX6_29.g dX6_clears_46 lay_53 rfl ?_
                  refine ev_bipush dX6_clears_49 (by decide) ?_
                  refine ev_iload dX6_clears_51 rfl ?_
                  refine ev_imul dX6_clears_53 ?_
                  refine ev_iload dX6_clears_54 rfl ?_
                  refine ev_iadd dX6_clears_56 ?_
                  refine ev_aload_n dX6_clears_57 rfl ?_
                  refine em_getR fX6_29.g dX6_clears_58 lay_53 rfl ?_
                  refine ev_bipush dX6_clears_61 (by decide) ?_
                  refine ev_iload dX6_clears_63 rfl ?_
                  refine ev_imul dX6_clears_65 ?_
                  refine ev_iload dX6_clears_66 rfl ?_
                  refine ev_iadd dX6_clears_68 ?_
                  refine en_lald ((8 * r) + k) dX6_clears_69 lay_60 (by omega) (by omega) ?_
                  refine ev_aload_n dX6_clears_70 rfl ?_
                  refine em_getR fX6_29.g dX6_clears_71 lay_53 rfl ?_
                  refine ev_bipush dX6_clears_74 (by decide) ?_
                  refine ev_iload_n dX6_clears_76 rfl ?_
                  refine ev_imul dX6_clears_77 ?_
                  refine ev_iload_n dX6_clears_78 rfl ?_
                  refine ev_iadd dX6_clears_79 ?_
                  refine en_lald ((8 * c) + c) dX6_clears_80 lay_60 (by omega) (by omega) ?_
                  refine ev_lmul dX6_clears_81 ?_
                  refine ev_lload dX6_clears_82 rfl ?_
                  refine ev_aload_n dX6_clears_84 rfl ?_
                  refine em_getR fX6_29.g dX6_clears_85 lay_53 rfl ?_
                  refine ev_bipush dX6_clears_88 (by decide) ?_
                  refine ev_iload_n dX6_clears_90 rfl ?_
                  refine ev_imul dX6_clears_91 ?_
                  refine ev_iload dX6_clears_92 rfl ?_
                  refine ev_iadd dX6_clears_94 ?_
                  refine en_lald ((8 * c) + k) dX6_clears_95 lay_60 (by omega) (by omega) ?_
                  refine ev_lmul dX6_clears_96 ?_
                  refine ev_lsub dX6_clears_97 ?_
                  rw [e1, e2, e3]
                  refine ev_lload_n dX6_clears_98 rfl ?_
                  refine ev_ldiv dX6_clears_99 (by omega) (by omega) (by omega) ?_
                  refine en_last ((8 * r) + k) dX6_clears_100 lay_60 (by omega) (by omega) ?_
                  refine ev_iinc dX6_clears_101 rfl (by decide) ?_
                  refine ev_ls [some (vR _), some (vI _), some (vI _), some (vL _), none, some (vI _), some (vL _), none, some (vI _)] rfl ?_
                  refine ev_goto 28 dX6_clears_104 ?_
                  exact ihinner (k + 1) _ (by omega) (by omega) (fun q hq => by rw [up2_row _ _ _ _ hq, hk2 q hq]) (fun a b ha hb => by rw [up2_60 ha hb (by omega) (by omega), hm2 a b ha hb]; by_cases q : a = r ∧ b = k; (rw [if_pos q, if_pos (by omega), q.1, q.2]; unfold cl; rw [if_pos (by omega)]); (rw [if_neg q]; by_cases q2 : a < r ∨ (a = r ∧ b < k); (rw [if_pos q2, if_pos (by omega)]); (rw [if_neg q2, if_neg (by omega)])))
        exact inner (n + 1) 0 M1 (by omega) (by omega) hk1 (fun a b ha hb => by rw [hm1 a b ha hb]; by_cases q : a < r; (rw [if_pos q, if_pos (by omega)]); (rw [if_neg q, if_neg (by omega)]))
  refine ev_iload_n dX6_clears_0 rfl ?_
  refine ev_iconst dX6_clears_1 ?_
  refine ev_iadd dX6_clears_2 ?_
  refine ev_istore dX6_clears_3 (by decide) ?_
  refine ev_ls [some (vR _), some (vI _), some (vI _), some (vL _), none, some (vI _), none, none, none] rfl ?_
  exact outer (n + 1) (c + 1) M (by omega) (by omega) (by omega) (fun _ _ => rfl) (fun a b ha hb => by by_cases q : a < c + 1; (rw [if_pos q]; unfold cl; rw [if_neg (by omega)]); (rw [if_neg q]))
set_option maxRecDepth 100000 in
set_option maxHeartbeats 4000000 in
theorem d_backs (l : Launch) {M : Mem} {n : Nat} {last : Int} {mem : Nat → Nat} {X : Nat → Int} (hn1 : 1 ≤ n) (hn : n ≤ 8) (hmem : ∀ i, i < n → M 59 i = (mem i : Int) ∧ mem i < 8) (hinj : ∀ i j, i < n → j < n → mem i = mem j → i = j) (hX0 : X 0 = 0) (hsys : ∀ r, 1 ≤ r → r < n → M 60 (8 * r) * last - sm n (fun k => if r < k then M 60 (8 * r + k) * X k else 0) = M 60 (8 * r + r) * X r ∧ i64 (M 60 (8 * r + r) * X r) ∧ i64 (M 60 (8 * r + r)) ∧ M 60 (8 * r + r) ≠ 0) : Cm l yX6_backs cX6_backs 8 none 0 0 [vR 53, vI (n : Int), vL last] M (fun r M' => r = none ∧ (∀ k, k ≠ 61 → k ≠ 62 → M' k = M k) ∧ (∀ i, i < n → M' 61 (mem i) = X i ∧ M' 62 (mem i) = last) ∧ ∀ t, (∀ i, i < n → mem i ≠ t) → M' 61 t = M 61 t ∧ M' 62 t = M 62 t) := by
  refine cmo [some (vR 53), some (vI (n : Int)), some (vL last), none, none, none, none, none] ?_
  have fst : ∀ (m1 : Nat) (i : Nat) (M1 : Mem), n < i + m1 → i ≤ n → (∀ k, k ≠ 61 → k ≠ 62 → M1 k = M k) → (∀ q, q < i → M1 61 (mem q) = 0 ∧ M1 62 (mem q) = last) → (∀ t, (∀ i, i < n → mem i ≠ t) → M1 61 t = M 61 t ∧ M1 62 t = M 62 t) → Em l yX6_backs cX6_backs 8 none 0 0 (fun r M' => r = none ∧ (∀ k, k ≠ 61 → k ≠ 62 → M' k = M k) ∧ (∀ i, i < n → M' 61 (mem i) = X i ∧ M' 62 (mem i) = last) ∧ ∀ t, (∀ i, i < n → mem i ≠ t) → M' 61 t = M 61 t ∧ M' 62 t = M 62 t) 3 [some (vR 53), some (vI (n : Int)), some (vL last), none, some (vI (i : Int)), none, none, none] [] M1 := by
    intro m1
    induction m1 with
    | zero => intro i M1 h1 h2 hk1 hm1 ho1; omega
    | succ m1 ihfst =>
      intro i M1 h1 h2 hk1 hm1 ho1
      refine ev_iload dX6_backs_3 rfl ?_
      refine ev_iload_n dX6_backs_5 rfl ?_
      refine ev_icmp_ge 41 dX6_backs_6 (by omega) (by omega) (fun c1 => ?_) (fun c1 => ?_)
      · have ei : n = i := by omega
        subst ei
        have down : ∀ (m2 : Nat) (r : Nat) (M2 : Mem), r < m2 → r < n → (∀ k, k ≠ 61 → k ≠ 62 → M2 k = M k) → (∀ i, i < n → M2 62 (mem i) = last) → (∀ i, r < i → i < n → M2 61 (mem i) = X i) → (∀ i, i < n → i ≤ r → M2 61 (mem i) = 0) → (∀ t, (∀ i, i < n → mem i ≠ t) → M2 61 t = M 61 t ∧ M2 62 t = M 62 t) → Em l yX6_backs cX6_backs 8 none 0 0 (fun r M' => r = none ∧ (∀ k, k ≠ 61 → k ≠ 62 → M' k = M k) ∧ (∀ i, i < n → M' 61 (mem i) = X i ∧ M' 62 (mem i) = last) ∧ ∀ t, (∀ i, i < n → mem i ≠ t) → M' 61 t = M 61 t ∧ M' 62 t = M 62 t) 46 [some (vR 53), some (vI (n : Int)), some (vL last), none, some (vI (r : Int)), none, none, none] [] M2 := by
          intro m2
          induction m2 with
          | zero => intro r M2 h3 h4 hk2 hu2 hx2 hz2 ho2; omega
          | succ m2 ihdown =>
            intro r M2 h3 h4 hk2 hu2 hx2 hz2 ho2
            refine ev_iload dX6_backs_46 rfl ?_
            refine ev_if_le 148 dX6_backs_48 (by omega) (fun c2 => ?_) (fun c2 => ?_)
            · have er : r = 0 := by omega
              subst er
              exact em_vret dX6_backs_148 ⟨rfl, hk2, fun q hq => ⟨by by_cases e : q = 0; (subst e; rw [hz2 0 hq (by omega)]; exact hX0.symm); (exact hx2 q (by omega) hq), hu2 q hq⟩, ho2⟩
            · have hr60 : ∀ j, M2 60 j = M 60 j := fun j => by rw [hk2 60 (by omega) (by omega)]
              have hr59 : ∀ j, M2 59 j = M 59 j := fun j => by rw [hk2 59 (by omega) (by omega)]
              obtain ⟨hs, hi1, hi2, hne⟩ := hsys r (by omega) (by omega)
              refine ev_aload_n dX6_backs_51 rfl ?_
              refine em_getR fX6_29.g dX6_backs_52 lay_53 rfl ?_
              refine ev_bipush dX6_backs_55 (by decide) ?_
              refine ev_iload dX6_backs_57 rfl ?_
              refine ev_imul dX6_backs_59 ?_
              refine en_lald (8 * r) dX6_backs_60 lay_60 (by omega) (by omega) ?_
              rw [hr60]
              refine ev_lload_n dX6_backs_61 rfl ?_
              refine ev_lmul dX6_backs_62 ?_
              refine ev_lstore dX6_backs_63 (by decide) ?_
              refine ev_ls [some (vR _), some (vI _), some (vL _), none, some (vI _), some (vL _), none, none] rfl ?_
              refine ev_iload dX6_backs_65 rfl ?_
              refine ev_iconst dX6_backs_67 ?_
              refine ev_iadd dX6_backs_68 ?_
              refine ev_istore dX6_backs_69 (by decide) ?_
              refine ev_ls [some (vR _), some (vI _), some (vL _), none, some (vI _), some (vL _), none, some (vI _)] rfl ?_
              have inn : ∀ (m3 : Nat) (k : Nat), n < k + m3 → k ≤ n → r < k → Em l yX6_backs cX6_backs 8 none 0 0 (fun r M' => r = none ∧ (∀ k, k ≠ 61 → k ≠ 62 → M' k = M k) ∧ (∀ i, i < n → M' 61 (mem i) = X i ∧ M' 62 (mem i) = last) ∧ ∀ t, (∀ i, i < n → mem i ≠ t) → M' 61 t = M 61 t ∧ M' 62 t = M 62 t) 71 [some (vR 53), some (vI (n : Int)), some (vL last), none, some (vI (r : Int)), some (vL (M 60 (8 * r) * last - sm k (fun k => if r < k then M 60 (8 * r + k) * X k else 0))), none, some (vI (k : Int))] [] M2 := by
                intro m3
                induction m3 with
                | zero => intro k h5 h6 h7; omega
                | succ m3 ihinn =>
                  intro k h5 h6 h7
                  refine ev_iload dX6_backs_71 rfl ?_
                  refine ev_iload_n dX6_backs_73 rfl ?_
                  refine ev_icmp_ge 114 dX6_backs_74 (by omega) (by omega) (fun c3 => ?_) (fun c3 => ?_)
                  · have ek : n = k := by omega
                    subst ek
                    have hmr := hmem r (by omega)
                    refine ev_aload_n dX6_backs_114 rfl ?_
                    refine em_getR fX6_33.g dX6_backs_115 lay_53 rfl ?_
                    refine ev_aload_n dX6_backs_118 rfl ?_
                    refine em_getR fX6_26.g dX6_backs_119 lay_53 rfl ?_
                    refine ev_iload dX6_backs_122 rfl ?_
                    refine en_iald r dX6_backs_124 lay_59 (by omega) (by omega) ?_
                    refine ev_lload dX6_backs_125 rfl ?_
                    refine ev_aload_n dX6_backs_127 rfl ?_
                    refine em_getR fX6_29.g dX6_backs_128 lay_53 rfl ?_
                    refine ev_bipush dX6_backs_131 (by decide) ?_
                    refine ev_iload dX6_backs_133 rfl ?_
                    refine ev_imul dX6_backs_135 ?_
                    refine ev_iload dX6_backs_136 rfl ?_
                    refine ev_iadd dX6_backs_138 ?_
                    refine en_lald ((8 * r) + r) dX6_backs_139 lay_60 (by omega) (by omega) ?_
                    rw [hr60, hs]
                    refine ev_ldiv dX6_backs_140 hi1 hi2 hne ?_
                    rw [Int.mul_tdiv_cancel_left _ hne]
                    refine en_last (mem r) dX6_backs_141 lay_61 (by rw [hr59]; exact hmr.1) (by omega) ?_
                    refine ev_iinc dX6_backs_142 rfl (by decide) ?_
                    refine ev_ls [some (vR _), some (vI _), some (vL _), none, some (vI _), some (vL _), none, some (vI _)] rfl ?_
                    refine ev_goto 46 dX6_backs_145 ?_
                    refine ev_mask [true, true, true, true, true, false, false, false] ?_
                    have hg := ihdown (r - 1) (up2 M2 61 (mem r) (X r)) (by omega) (by omega) (fun q h1 h2 => by rw [up2_row _ _ _ _ h1, hk2 q h1 h2]) (fun q hq => by rw [up2_row _ _ _ _ (by omega)]; exact hu2 q hq) (fun q h1 h2 => by by_cases e : q = r; (rw [e, up2_same]); (rw [up2_ne _ _ _ _ (Or.inr (fun z => e (hinj q r h2 (by omega) z)))]; exact hx2 q (by omega) h2)) (fun q h1 h2 => by rw [up2_ne _ _ _ _ (Or.inr (fun z => by have := hinj q r h1 (by omega) z; omega))]; exact hz2 q h1 (by omega)) (fun t ht => ⟨by rw [up2_ne _ _ _ _ (Or.inr (fun z => ht r (by omega) z.symm))]; exact (ho2 t ht).1, by rw [up2_row _ _ _ _ (by omega)]; exact (ho2 t ht).2⟩)
                    rw [show ((r - 1 : Nat) : Int) = (r : Int) + -1 by omega] at hg
                    exact hg
                  · have hmk := hmem k (by omega)
                    refine ev_lload dX6_backs_77 rfl ?_
                    refine ev_aload_n dX6_backs_79 rfl ?_
                    refine em_getR fX6_29.g dX6_backs_80 lay_53 rfl ?_
                    refine ev_bipush dX6_backs_83 (by decide) ?_
                    refine ev_iload dX6_backs_85 rfl ?_
                    refine ev_imul dX6_backs_87 ?_
                    refine ev_iload dX6_backs_88 rfl ?_
                    refine ev_iadd dX6_backs_90 ?_
                    refine en_lald ((8 * r) + k) dX6_backs_91 lay_60 (by omega) (by omega) ?_
                    refine ev_aload_n dX6_backs_92 rfl ?_
                    refine em_getR fX6_33.g dX6_backs_93 lay_53 rfl ?_
                    refine ev_aload_n dX6_backs_96 rfl ?_
                    refine em_getR fX6_26.g dX6_backs_97 lay_53 rfl ?_
                    refine ev_iload dX6_backs_100 rfl ?_
                    refine en_iald k dX6_backs_102 lay_59 (by omega) (by omega) ?_
                    refine en_lald (mem k) dX6_backs_103 lay_61 (by rw [hr59]; exact hmk.1) (by omega) ?_
                    refine ev_lmul dX6_backs_104 ?_
                    refine ev_lsub dX6_backs_105 ?_
                    rw [hr60, hx2 k (by omega) (by omega)]
                    rw [show M 60 (8 * r) * last - sm k (fun k => if r < k then M 60 (8 * r + k) * X k else 0) - M 60 (8 * r + k) * X k = M 60 (8 * r) * last - sm (k + 1) (fun k => if r < k then M 60 (8 * r + k) * X k else 0) by show _ = _ - (sm k _ + (if r < k then M 60 (8 * r + k) * X k else 0)); rw [if_pos (by omega)]; omega]
                    refine ev_lstore dX6_backs_106 (by decide) ?_
                    refine ev_ls [some (vR _), some (vI _), some (vL _), none, some (vI _), some (vL _), none, some (vI _)] rfl ?_
                    refine ev_iinc dX6_backs_108 rfl (by decide) ?_
                    refine ev_ls [some (vR _), some (vI _), some (vL _), none, some (vI _), some (vL _), none, some (vI _)] rfl ?_
                    refine ev_goto 71 dX6_backs_111 ?_
                    exact ihinn (k + 1) (by omega) (by omega) (by omega)
              have hg := inn (n + 1) (r + 1) (by omega) (by omega) (by omega)
              rw [show sm (r + 1) (fun k => if r < k then M 60 (8 * r + k) * X k else 0) = 0 from sm_zero (fun i hi => if_neg (by omega)), Int.sub_zero] at hg
              exact hg
        refine ev_iload_n dX6_backs_41 rfl ?_
        refine ev_iconst dX6_backs_42 ?_
        refine ev_isub dX6_backs_43 ?_
        rw [show (n : Int) - 1 = ((n - 1 : Nat) : Int) by omega]
        refine ev_istore dX6_backs_44 (by decide) ?_
        refine ev_ls [some (vR _), some (vI _), some (vL _), none, some (vI _), none, none, none] rfl ?_
        exact down n (n - 1) M1 (by omega) (by omega) hk1 (fun i hi => (hm1 i hi).2) (fun i h1 h2 => by omega) (fun i h1 h2 => (hm1 i h1).1) ho1
      · have hmi := hmem i (by omega)
        have hr59 : ∀ j, M1 59 j = M 59 j := fun j => by rw [hk1 59 (by omega) (by omega)]
        refine ev_aload_n dX6_backs_9 rfl ?_
        refine em_getR fX6_36.g dX6_backs_10 lay_53 rfl ?_
        refine ev_aload_n dX6_backs_13 rfl ?_
        refine em_getR fX6_26.g dX6_backs_14 lay_53 rfl ?_
        refine ev_iload dX6_backs_17 rfl ?_
        refine en_iald i dX6_backs_19 lay_59 (by omega) (by omega) ?_
        refine ev_lload_n dX6_backs_20 rfl ?_
        refine en_last (mem i) dX6_backs_21 lay_62 (by rw [hr59]; exact hmi.1) (by omega) ?_
        refine ev_aload_n dX6_backs_22 rfl ?_
        refine em_getR fX6_33.g dX6_backs_23 lay_53 rfl ?_
        refine ev_aload_n dX6_backs_26 rfl ?_
        refine em_getR fX6_26.g dX6_backs_27 lay_53 rfl ?_
        refine ev_iload dX6_backs_30 rfl ?_
        refine en_iald i dX6_backs_32 lay_59 (by omega) (by omega) ?_
        refine ev_lconst0 dX6_backs_33 ?_
        refine en_last (mem i) dX6_backs_34 lay_61 (by rw [up2_row _ _ _ _ (by omega), hr59]; exact hmi.1) (by omega) ?_
        refine ev_iinc dX6_backs_35 rfl (by decide) ?_
        refine ev_ls [some (vR _), some (vI _), some (vL _), none, some (vI _), none, none, none] rfl ?_
        refine ev_goto 3 dX6_backs_38 ?_
        exact ihfst (i + 1) _ (by omega) (by omega) (fun q h1 h2 => by rw [up2_row _ _ _ _ h1, up2_row _ _ _ _ h2, hk1 q h1 h2]) (fun q hq => ⟨by by_cases e : q = i; (rw [e, up2_same]); (rw [up2_ne _ _ _ _ (Or.inr (fun z => e (hinj q i (by omega) (by omega) z))), up2_row _ _ _ _ (by omega)]; exact (hm1 q (by omega)).1), by rw [up2_row _ _ _ _ (by omega)]; by_cases e : q = i; (rw [e, up2_same]); (rw [up2_ne _ _ _ _ (Or.inr (fun z => e (hinj q i (by omega) (by omega) z)))]; exact (hm1 q (by omega)).2)⟩) (fun t ht => ⟨by rw [up2_ne _ _ _ _ (Or.inr (fun z => ht i (by omega) z.symm)), up2_row _ _ _ _ (by omega)]; exact (ho1 t ht).1, by rw [up2_row _ _ _ _ (by omega), up2_ne _ _ _ _ (Or.inr (fun z => ht i (by omega) z.symm))]; exact (ho1 t ht).2⟩)
  refine ev_iconst dX6_backs_0 ?_
  refine ev_istore dX6_backs_1 (by decide) ?_
  refine ev_ls [some (vR _), some (vI _), some (vL _), none, some (vI _), none, none, none] rfl ?_
  exact fst (n + 1) 0 M (by omega) (by omega) (fun _ _ _ => rfl) (fun q hq => by omega) (fun t ht => ⟨rfl, rfl⟩)
