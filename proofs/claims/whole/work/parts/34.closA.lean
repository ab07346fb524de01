theorem add41 {M : Mem} {a b r k : Nat} {d : Int} : up2 M (41 + r) k (M (41 + r) k + d) (41 + a) b = M (41 + a) b + (if a = r ∧ b = k then d else 0) := by
  rw [up2_at]
  by_cases q : a = r ∧ b = k
  · rw [if_pos (by omega), if_pos q, q.1, q.2]
  · rw [if_neg (by omega), if_neg q]; omega
theorem sub41 {M : Mem} {a b r k : Nat} {d : Int} : up2 M (41 + r) k (M (41 + r) k - d) (41 + a) b = M (41 + a) b - (if a = r ∧ b = k then d else 0) := by
  rw [up2_at]
  by_cases q : a = r ∧ b = k
  · rw [if_pos (by omega), if_pos q, q.1, q.2]
  · rw [if_neg (by omega), if_neg q]; omega
set_option maxRecDepth 100000 in
set_option maxHeartbeats 4000000 in
theorem c_joinNets (l : Launch) {M : Mem} {f : Nat → Nat} {x z : Nat} (hf : ∀ t, t < 8 → M 38 t = (f t : Int) ∧ f t < 8) (hx : x < 8) (hz : z < 8) : Cm l yX0_joinNets cX0_joinNets 6 none 1 21 [vR 19, vI (x : Int), vI (z : Int)] M (fun r M' => r = none ∧ (∀ k, k ≠ 38 → M' k = M k) ∧ ∀ t, t < 8 → M' 38 t = ((rel f x z t : Nat) : Int)) := by
  refine cmo [some (vR 19), some (vI (x : Int)), some (vI (z : Int)), none, none, none] ?_
  have lp : ∀ (m1 : Nat) (t : Nat) (M1 : Mem), 8 < t + m1 → t ≤ 8 → (∀ k, k ≠ 38 → M1 k = M k) → (∀ q, q < 8 → M1 38 q = ((if q < t then rel f x z q else f q : Nat) : Int)) → Em l yX0_joinNets cX0_joinNets 6 none 1 21 (fun r M' => r = none ∧ (∀ k, k ≠ 38 → M' k = M k) ∧ ∀ t, t < 8 → M' 38 t = ((rel f x z t : Nat) : Int)) 16 [some (vR 19), some (vI (x : Int)), some (vI (z : Int)), some (vI ((min x z : Nat) : Int)), some (vI ((max x z : Nat) : Int)), some (vI (t : Int))] [] M1 := by
    intro m1
    induction m1 with
    | zero => intro t M1 h1 h2 hk1 hv1; omega
    | succ m1 ihlp =>
      intro t M1 h1 h2 hk1 hv1
      refine ev_iload dX0_joinNets_16 rfl ?_
      refine ev_bipush dX0_joinNets_18 (by decide) ?_
      refine ev_icmp_ge 49 dX0_joinNets_20 (by omega) (by omega) (fun c1 => ?_) (fun c1 => ?_)
      · have et : 8 = t := by omega
        subst et
        exact em_vret dX0_joinNets_49 ⟨rfl, hk1, fun q hq => by rw [hv1 q hq, if_pos hq]⟩
      · have hvt := hv1 t (by omega)
        rw [if_neg (by omega)] at hvt
        have hft := hf t (by omega)
        refine ev_aload_n dX0_joinNets_23 rfl ?_
        refine em_getR fX0_23.g dX0_joinNets_24 lay_19 rfl ?_
        refine ev_iload dX0_joinNets_27 rfl ?_
        refine en_iald t dX0_joinNets_29 lay_38 (by omega) (by omega) ?_
        refine ev_iload dX0_joinNets_30 rfl ?_
        refine ev_icmp_ne 43 dX0_joinNets_32 (by omega) (by omega) (fun c32 => ?_) (fun c32 => ?_)
        · have ect : ¬ f t = max x z := by omega
          refine ev_iinc dX0_joinNets_43 rfl (by decide) ?_
          refine ev_ls [some (vR _), some (vI _), some (vI _), some (vI _), some (vI _), some (vI _)] rfl ?_
          refine ev_goto 16 dX0_joinNets_46 ?_
          exact ihlp (t + 1) M1 (by omega) (by omega) hk1 (fun q hq => by rw [hv1 q hq]; by_cases e : q = t; (subst e; rw [if_neg (by omega), if_pos (by omega)]; unfold rel; rw [if_neg ect]); (by_cases e2 : q < t; (rw [if_pos e2, if_pos (by omega)]); (rw [if_neg e2, if_neg (by omega)])))
        · have ect : f t = max x z := by omega
          refine ev_aload_n dX0_joinNets_35 rfl ?_
          refine em_getR fX0_23.g dX0_joinNets_36 lay_19 rfl ?_
          refine ev_iload dX0_joinNets_39 rfl ?_
          refine ev_iload_n dX0_joinNets_41 rfl ?_
          refine en_iast t dX0_joinNets_42 lay_38 (by omega) (by omega) ?_
          refine ev_iinc dX0_joinNets_43 rfl (by decide) ?_
          refine ev_ls [some (vR _), some (vI _), some (vI _), some (vI _), some (vI _), some (vI _)] rfl ?_
          refine ev_goto 16 dX0_joinNets_46 ?_
          exact ihlp (t + 1) _ (by omega) (by omega) (fun k hk => by rw [up2_row _ _ _ _ hk, hk1 k hk]) (fun q hq => by rw [up2_at]; by_cases e : q = t; (subst e; rw [if_pos ⟨rfl, rfl⟩, if_pos (by omega)]; unfold rel; rw [if_pos ect]); (rw [if_neg (by omega), hv1 q hq]; by_cases e2 : q < t; (rw [if_pos e2, if_pos (by omega)]); (rw [if_neg e2, if_neg (by omega)])))
  refine ev_iload_n dX0_joinNets_0 rfl ?_
  refine ev_iload_n dX0_joinNets_1 rfl ?_
  refine em_S2 (c_mmin l _ (by omega) (by omega)) mX0_95 dX0_joinNets_2 ?_
  rintro r M ⟨rfl, rfl⟩
  rw [show min (x : Int) (z : Int) = ((min x z : Nat) : Int) by omega]
  refine ev_istore_n dX0_joinNets_5 (by decide) ?_
  refine ev_ls [some (vR _), some (vI _), some (vI _), some (vI _), none, none] rfl ?_
  refine ev_iload_n dX0_joinNets_6 rfl ?_
  refine ev_iload_n dX0_joinNets_7 rfl ?_
  refine em_S2 (c_mmax l _ (by omega) (by omega)) mX0_98 dX0_joinNets_8 ?_
  rintro r M ⟨rfl, rfl⟩
  rw [show max (x : Int) (z : Int) = ((max x z : Nat) : Int) by omega]
  refine ev_istore dX0_joinNets_11 (by decide) ?_
  refine ev_ls [some (vR _), some (vI _), some (vI _), some (vI _), some (vI _), none] rfl ?_
  refine ev_iconst dX0_joinNets_13 ?_
  refine ev_istore dX0_joinNets_14 (by decide) ?_
  refine ev_ls [some (vR _), some (vI _), some (vI _), some (vI _), some (vI _), some (vI _)] rfl ?_
  exact lp 9 0 M (by omega) (by omega) (fun _ _ => rfl) (fun q hq => by rw [if_neg (by omega)]; exact (hf q hq).1)
set_option maxRecDepth 100000 in
set_option maxHeartbeats 4000000 in
theorem c_gather (l : Launch) {M : Mem} {c : Nat → Nat} {g T : Nat} (h8 : T ≤ 8) (hv : ∀ t, t < T → M 38 t = (c t : Int) ∧ c t < 8) (hg : g < 8) : Cm l yX0_gatherMembers cX0_gatherMembers 5 (some .int) 0 0 [vR 19, vI (g : Int), vI (T : Int)] M (fun r M' => r = some (vI (((ml c g T).length : Nat) : Int)) ∧ (∀ k, k ≠ 39 → M' k = M k) ∧ ∀ i, i < (ml c g T).length → M' 39 i = (me c g T i : Int)) := by
  refine cmo [some (vR 19), some (vI (g : Int)), some (vI (T : Int)), none, none] ?_
  have lp : ∀ (m1 : Nat) (t : Nat) (M1 : Mem), T < t + m1 → t ≤ T → (∀ k, k ≠ 39 → M1 k = M k) → (∀ i, i < (ml c g t).length → M1 39 i = (me c g t i : Int)) → Em l yX0_gatherMembers cX0_gatherMembers 5 (some .int) 0 0 (fun r M' => r = some (vI (((ml c g T).length : Nat) : Int)) ∧ (∀ k, k ≠ 39 → M' k = M k) ∧ ∀ i, i < (ml c g T).length → M' 39 i = (me c g T i : Int)) 5 [some (vR 19), some (vI (g : Int)), some (vI (T : Int)), some (vI (((ml c g t).length : Nat) : Int)), some (vI (t : Int))] [] M1 := by
    intro m1
    induction m1 with
    | zero => intro t M1 h1 h2 hk1 hm1; omega
    | succ m1 ihlp =>
      intro t M1 h1 h2 hk1 hm1
      have hml := ml_len c g t
      refine ev_iload dX0_gatherMembers_5 rfl ?_
      refine ev_iload_n dX0_gatherMembers_7 rfl ?_
      refine ev_icmp_ge 39 dX0_gatherMembers_8 (by omega) (by omega) (fun c1 => ?_) (fun c1 => ?_)
      · have et : T = t := by omega
        subst et
        refine ev_iload_n dX0_gatherMembers_39 rfl ?_
        exact em_iret dX0_gatherMembers_40 ⟨rfl, hk1, hm1⟩
      · have hvt : M1 38 t = (c t : Int) := by rw [hk1 38 (by omega)]; exact (hv t (by omega)).1
        have hct := (hv t (by omega)).2
        refine ev_aload_n dX0_gatherMembers_11 rfl ?_
        refine em_getR fX0_23.g dX0_gatherMembers_12 lay_19 rfl ?_
        refine ev_iload dX0_gatherMembers_15 rfl ?_
        refine en_iald t dX0_gatherMembers_17 lay_38 (by omega) (by omega) ?_
        refine ev_iload_n dX0_gatherMembers_18 rfl ?_
        refine ev_icmp_ne 33 dX0_gatherMembers_19 (by omega) (by omega) (fun c19 => ?_) (fun c19 => ?_)
        · have hct2 : ¬ c t = g := by omega
          have hs := ml_skip (T := t) hct2
          refine ev_iinc dX0_gatherMembers_33 rfl (by decide) ?_
          refine ev_ls [some (vR _), some (vI _), some (vI _), some (vI _), some (vI _)] rfl ?_
          refine ev_goto 5 dX0_gatherMembers_36 ?_
          have hgo := ihlp (t + 1) M1 (by omega) (by omega) hk1 (fun i hi => by rw [hs] at hi; rw [me_stable hi]; exact hm1 i hi)
          rw [hs] at hgo
          exact hgo
        · have hct2 : c t = g := by omega
          have hn := me_new (T := t) hct2
          refine ev_aload_n dX0_gatherMembers_22 rfl ?_
          refine em_getR fX0_27.g dX0_gatherMembers_23 lay_19 rfl ?_
          refine ev_iload_n dX0_gatherMembers_26 rfl ?_
          refine ev_iload dX0_gatherMembers_27 rfl ?_
          refine en_iast (ml c g t).length dX0_gatherMembers_29 lay_39 (by omega) (by omega) ?_
          refine ev_iinc dX0_gatherMembers_30 rfl (by decide) ?_
          refine ev_ls [some (vR _), some (vI _), some (vI _), some (vI _), some (vI _)] rfl ?_
          refine ev_iinc dX0_gatherMembers_33 rfl (by decide) ?_
          refine ev_ls [some (vR _), some (vI _), some (vI _), some (vI _), some (vI _)] rfl ?_
          refine ev_goto 5 dX0_gatherMembers_36 ?_
          have hgo := ihlp (t + 1) (up2 M1 39 (ml c g t).length (t : Int)) (by omega) (by omega) (fun q hq => by rw [up2_row _ _ _ _ hq, hk1 q hq]) (fun i hi => by rw [hn.1] at hi; rw [up2_at]; by_cases e : i = (ml c g t).length; (rw [if_pos ⟨rfl, e⟩, e, hn.2]); (rw [if_neg (by omega), me_stable (by omega)]; exact hm1 i (by omega)))
          rw [hn.1] at hgo
          exact hgo
  refine ev_iconst dX0_gatherMembers_0 ?_
  refine ev_istore_n dX0_gatherMembers_1 (by decide) ?_
  refine ev_ls [some (vR _), some (vI _), some (vI _), some (vI _), none] rfl ?_
  refine ev_iconst dX0_gatherMembers_2 ?_
  refine ev_istore dX0_gatherMembers_3 (by decide) ?_
  refine ev_ls [some (vR _), some (vI _), some (vI _), some (vI _), some (vI _)] rfl ?_
  exact lp (T + 1) 0 M (by omega) (by omega) (fun _ _ => rfl) (fun i hi => by simp [ml] at hi)
set_option maxRecDepth 100000 in
set_option maxHeartbeats 4000000 in
theorem c_addToRows (l : Launch) {M : Mem} {p q R : Nat} {d : Int} (hp : p < q) (hq : q ≤ R) (hR : R ≤ 7) (hd : i32 d) : Cm l yX0_addToRows cX0_addToRows 5 none 0 0 [vR 19, vI (p : Int), vI (q : Int), vI d, vI (R : Int)] M (fun r M' => r = none ∧ (∀ k, (k < 41 ∨ 49 ≤ k) → M' k = M k) ∧ ∀ a b, M' (41 + a) b = M (41 + a) b + ((if a = p ∧ b = p then 1 else 0) + (if a = p ∧ b = R then d else 0) + (if q < R then (if a = q ∧ b = q then 1 else 0) - (if a = p ∧ b = q then 1 else 0) - (if a = q ∧ b = p then 1 else 0) - (if a = q ∧ b = R then d else 0) else 0))) := by
  refine cmo [some (vR 19), some (vI (p : Int)), some (vI (q : Int)), some (vI d), some (vI (R : Int))] ?_
  refine ev_aload_n dX0_addToRows_0 rfl ?_
  refine em_getR fX0_32.g dX0_addToRows_1 lay_19 rfl ?_
  refine ev_iload_n dX0_addToRows_4 rfl ?_
  refine en_row p dX0_addToRows_5 (by omega) (by omega) ?_
  refine ev_iload_n dX0_addToRows_6 rfl ?_
  refine ev_dup2 dX0_addToRows_7 ?_
  refine en_lald p dX0_addToRows_8 (lay_row (i := p) (by omega)) (by omega) (by omega) ?_
  refine ev_lconst1 dX0_addToRows_9 ?_
  refine ev_ladd dX0_addToRows_10 ?_
  refine en_last p dX0_addToRows_11 (lay_row (i := p) (by omega)) (by omega) (by omega) ?_
  refine ev_aload_n dX0_addToRows_12 rfl ?_
  refine em_getR fX0_32.g dX0_addToRows_13 lay_19 rfl ?_
  refine ev_iload_n dX0_addToRows_16 rfl ?_
  refine en_row p dX0_addToRows_17 (by omega) (by omega) ?_
  refine ev_iload dX0_addToRows_18 rfl ?_
  refine ev_dup2 dX0_addToRows_20 ?_
  refine en_lald R dX0_addToRows_21 (lay_row (i := p) (by omega)) (by omega) (by omega) ?_
  refine ev_iload_n dX0_addToRows_22 rfl ?_
  refine ev_i2l dX0_addToRows_23 (by omega) ?_
  refine ev_ladd dX0_addToRows_24 ?_
  refine en_last R dX0_addToRows_25 (lay_row (i := p) (by omega)) (by omega) (by omega) ?_
  refine ev_iload_n dX0_addToRows_26 rfl ?_
  refine ev_iload dX0_addToRows_27 rfl ?_
  refine ev_icmp_ge 82 dX0_addToRows_29 (by omega) (by omega) (fun c29 => ?_) (fun c29 => ?_)
  · refine em_vret dX0_addToRows_82 ⟨rfl, fun k hk => ?_, fun a b => ?_⟩
    · simp only [up2_row _ _ _ _ (show k ≠ 41 + p by omega), up2_row _ _ _ _ (show k ≠ 41 + q by omega)]
    · first | (rw [if_pos (show q < R by omega), sub41 (a := a) (b := b), add41 (a := a) (b := b), sub41 (a := a) (b := b), sub41 (a := a) (b := b), add41 (a := a) (b := b), add41 (a := a) (b := b)]; omega) | (rw [if_neg (show ¬ q < R by omega), add41 (a := a) (b := b), add41 (a := a) (b := b)]; omega)
  · refine ev_aload_n dX0_addToRows_32 rfl ?_
    refine em_getR fX0_32.g dX0_addToRows_33 lay_19 rfl ?_
    refine ev_iload_n dX0_addToRows_36 rfl ?_
    refine en_row p dX0_addToRows_37 (by omega) (by omega) ?_
    refine ev_iload_n dX0_addToRows_38 rfl ?_
    refine ev_dup2 dX0_addToRows_39 ?_
    refine en_lald q dX0_addToRows_40 (lay_row (i := p) (by omega)) (by omega) (by omega) ?_
    refine ev_lconst1 dX0_addToRows_41 ?_
    refine ev_lsub dX0_addToRows_42 ?_
    refine en_last q dX0_addToRows_43 (lay_row (i := p) (by omega)) (by omega) (by omega) ?_
    refine ev_aload_n dX0_addToRows_44 rfl ?_
    refine em_getR fX0_32.g dX0_addToRows_45 lay_19 rfl ?_
    refine ev_iload_n dX0_addToRows_48 rfl ?_
    refine en_row q dX0_addToRows_49 (by omega) (by omega) ?_
    refine ev_iload_n dX0_addToRows_50 rfl ?_
    refine ev_dup2 dX0_addToRows_51 ?_
    refine en_lald p dX0_addToRows_52 (lay_row (i := q) (by omega)) (by omega) (by omega) ?_
    refine ev_lconst1 dX0_addToRows_53 ?_
    refine ev_lsub dX0_addToRows_54 ?_
    refine en_last p dX0_addToRows_55 (lay_row (i := q) (by omega)) (by omega) (by omega) ?_
    refine ev_aload_n dX0_addToRows_56 rfl ?_
    refine em_getR fX0_32.g dX0_addToRows_57 lay_19 rfl ?_
    refine ev_iload_n dX0_addToRows_60 rfl ?_
    refine en_row q dX0_addToRows_61 (by omega) (by omega) ?_
    refine ev_iload_n dX0_addToRows_62 rfl ?_
    refine ev_dup2 dX0_addToRows_63 ?_
    refine en_lald q dX0_addToRows_64 (lay_row (i := q) (by omega)) (by omega) (by omega) ?_
    refine ev_lconst1 dX0_addToRows_65 ?_
    refine ev_ladd dX0_addToRows_66 ?_
    refine en_last q dX0_addToRows_67 (lay_row (i := q) (by omega)) (by omega) (by omega) ?_
    refine ev_aload_n dX0_addToRows_68 rfl ?_
    refine em_getR fX0_32.g dX0_addToRows_69 lay_19 rfl ?_
    refine ev_iload_n dX0_addToRows_72 rfl ?_
    refine en_row q dX0_addToRows_73 (by omega) (by omega) ?_
    refine ev_iload dX0_addToRows_74 rfl ?_
    refine ev_dup2 dX0_addToRows_76 ?_
    refine en_lald R dX0_addToRows_77 (lay_row (i := q) (by omega)) (by omega) (by omega) ?_
    refine ev_iload_n dX0_addToRows_78 rfl ?_
    refine ev_i2l dX0_addToRows_79 (by omega) ?_
    refine ev_lsub dX0_addToRows_80 ?_
    refine en_last R dX0_addToRows_81 (lay_row (i := q) (by omega)) (by omega) (by omega) ?_
    refine em_vret dX0_addToRows_82 ⟨rfl, fun k hk => ?_, fun a b => ?_⟩
    · simp only [up2_row _ _ _ _ (show k ≠ 41 + p by omega), up2_row _ _ _ _ (show k ≠ 41 + q by omega)]
    · first | (rw [if_pos (show q < R by omega), sub41 (a := a) (b := b), add41 (a := a) (b := b), sub41 (a := a) (b := b), sub41 (a := a) (b := b), add41 (a := a) (b := b), add41 (a := a) (b := b)]; omega) | (rw [if_neg (show ¬ q < R by omega), add41 (a := a) (b := b), add41 (a := a) (b := b)]; omega)
set_option maxRecDepth 100000 in
set_option maxHeartbeats 4000000 in
theorem c_clearRow (l : Launch) {M : Mem} {r k n : Nat} {D : Int} (hr : r < n) (hk : k < n) (hrk : r ≠ k) (hn7 : n ≤ 7) (hD : i64 D) (hD0 : D ≠ 0) (hn : ∀ c, c ≤ n → i64 (M (41 + k) k * M (41 + r) c - M (41 + r) k * M (41 + k) c)) : Cm l yX0_clearRow cX0_clearRow 11 none 0 0 [vR 19, vI (r : Int), vI (k : Int), vI (n : Int), vL D] M (fun r' M' => r' = none ∧ (∀ q, q ≠ 41 + r → M' q = M q) ∧ ∀ c, c ≤ n → M' (41 + r) c = (M (41 + k) k * M (41 + r) c - M (41 + r) k * M (41 + k) c).tdiv D) := by
  refine cmo [some (vR 19), some (vI (r : Int)), some (vI (k : Int)), some (vI (n : Int)), some (vL D), none, none, none, none, none, none] ?_
  have lp : ∀ (m1 : Nat) (c : Nat) (M1 : Mem), n + 1 < c + m1 → c ≤ n + 1 → (∀ q, q ≠ 41 + r → M1 q = M q) → (∀ q, q < c → M1 (41 + r) q = (M (41 + k) k * M (41 + r) q - M (41 + r) k * M (41 + k) q).tdiv D) → (∀ q, c ≤ q → M1 (41 + r) q = M (41 + r) q) → Em l yX0_clearRow cX0_clearRow 11 none 0 0 (fun r' M' => r' = none ∧ (∀ q, q ≠ 41 + r → M' q = M q) ∧ ∀ c, c ≤ n → M' (41 + r) c = (M (41 + k) k * M (41 + r) c - M (41 + r) k * M (41 + k) c).tdiv D) 31 [some (vR 19), some (vI (r : Int)), some (vI (k : Int)), some (vI (n : Int)), some (vL D), none, some (vL (M (41 + k) k)), none, some (vL (M (41 + r) k)), none, some (vI (c : Int))] [] M1 := by
    intro m1
    induction m1 with
    | zero => intro c M1 h1 h2 hk1 hd1 hu1; omega
    | succ m1 ihlp =>
      intro c M1 h1 h2 hk1 hd1 hu1
      have hkr := hk1 (41 + k) (by omega)
      refine ev_iload dX0_clearRow_31 rfl ?_
      refine ev_iload_n dX0_clearRow_33 rfl ?_
      refine ev_icmp_gt 80 dX0_clearRow_34 (by omega) (by omega) (fun c1 => ?_) (fun c1 => ?_)
      · have et : n + 1 = c := by omega
        subst et
        exact em_vret dX0_clearRow_80 ⟨rfl, hk1, fun q hq => hd1 q (by omega)⟩
      · have hu := hu1 c (by omega)
        have hnc := hn c (by omega)
        refine ev_aload_n dX0_clearRow_37 rfl ?_
        refine em_getR fX0_32.g dX0_clearRow_38 lay_19 rfl ?_
        refine ev_iload_n dX0_clearRow_41 rfl ?_
        refine en_row r dX0_clearRow_42 (by omega) (by omega) ?_
        refine ev_iload dX0_clearRow_43 rfl ?_
        refine ev_lload dX0_clearRow_45 rfl ?_
        refine ev_aload_n dX0_clearRow_47 rfl ?_
        refine em_getR fX0_32.g dX0_clearRow_48 lay_19 rfl ?_
        refine ev_iload_n dX0_clearRow_51 rfl ?_
        refine en_row r dX0_clearRow_52 (by omega) (by omega) ?_
        refine ev_iload dX0_clearRow_53 rfl ?_
        refine en_lald c dX0_clearRow_55 (lay_row (i := r) (by omega)) (by omega) (by omega) ?_
        refine ev_lmul dX0_clearRow_56 ?_
        refine ev_lload dX0_clearRow_57 rfl ?_
        refine ev_aload_n dX0_clearRow_59 rfl ?_
        refine em_getR fX0_32.g dX0_clearRow_60 lay_19 rfl ?_
        refine ev_iload_n dX0_clearRow_63 rfl ?_
        refine en_row k dX0_clearRow_64 (by omega) (by omega) ?_
        refine ev_iload dX0_clearRow_65 rfl ?_
        refine en_lald c dX0_clearRow_67 (lay_row (i := k) (by omega)) (by omega) (by omega) ?_
        refine ev_lmul dX0_clearRow_68 ?_
        refine ev_lsub dX0_clearRow_69 ?_
        refine ev_lload dX0_clearRow_70 rfl ?_
        rw [hu, hkr]
        refine ev_ldiv dX0_clearRow_72 (by omega) (by omega) (by omega) ?_
        refine en_last c dX0_clearRow_73 (lay_row (i := r) (by omega)) (by omega) (by omega) ?_
        refine ev_iinc dX0_clearRow_74 rfl (by decide) ?_
        refine ev_ls [some (vR _), some (vI _), some (vI _), some (vI _), some (vL _), none, some (vL _), none, some (vL _), none, some (vI _)] rfl ?_
        refine ev_goto 31 dX0_clearRow_77 ?_
        exact ihlp (c + 1) _ (by omega) (by omega) (fun q hq => by rw [up2_row _ _ _ _ hq, hk1 q hq]) (fun q hq => by rw [up2_at]; by_cases e : q = c; (subst e; rw [if_pos ⟨rfl, rfl⟩]); (rw [if_neg (by omega)]; exact hd1 q (by omega))) (fun q hq => by rw [up2_ne _ _ _ _ (Or.inr (by omega))]; exact hu1 q (by omega))
  refine ev_lload dX0_clearRow_0 rfl ?_
  refine ev_lconst0 dX0_clearRow_2 ?_
  refine ev_lcmp_ne 8 dX0_clearRow_3 dX0_clearRow_4 (by omega) (by omega) (fun c3 => ?_) (fun c3 => ?_)
  · refine ev_aload_n dX0_clearRow_8 rfl ?_
    refine em_getR fX0_32.g dX0_clearRow_9 lay_19 rfl ?_
    refine ev_iload_n dX0_clearRow_12 rfl ?_
    refine en_row k dX0_clearRow_13 (by omega) (by omega) ?_
    refine ev_iload_n dX0_clearRow_14 rfl ?_
    refine en_lald k dX0_clearRow_15 (lay_row (i := k) (by omega)) (by omega) (by omega) ?_
    refine ev_lstore dX0_clearRow_16 (by decide) ?_
    refine ev_ls [some (vR _), some (vI _), some (vI _), some (vI _), some (vL _), none, some (vL _), none, none, none, none] rfl ?_
    refine ev_aload_n dX0_clearRow_18 rfl ?_
    refine em_getR fX0_32.g dX0_clearRow_19 lay_19 rfl ?_
    refine ev_iload_n dX0_clearRow_22 rfl ?_
    refine en_row r dX0_clearRow_23 (by omega) (by omega) ?_
    refine ev_iload_n dX0_clearRow_24 rfl ?_
    refine en_lald k dX0_clearRow_25 (lay_row (i := r) (by omega)) (by omega) (by omega) ?_
    refine ev_lstore dX0_clearRow_26 (by decide) ?_
    refine ev_ls [some (vR _), some (vI _), some (vI _), some (vI _), some (vL _), none, some (vL _), none, some (vL _), none, none] rfl ?_
    refine ev_iconst dX0_clearRow_28 ?_
    refine ev_istore dX0_clearRow_29 (by decide) ?_
    refine ev_ls [some (vR _), some (vI _), some (vI _), some (vI _), some (vL _), none, some (vL _), none, some (vL _), none, some (vI _)] rfl ?_
    exact lp (n + 2) 0 M (by omega) (by omega) (fun _ _ => rfl) (fun q hq => by omega) (fun _ _ => rfl)
  · omega
