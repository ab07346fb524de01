/-- what differ leaves as it was -/
def FR (M M' : Mem) : Prop := (∀ k, k ≠ 53 → M' k = M k) ∧ (∀ f, f ≠ 6 → f ≠ 7 → f ≠ 8 → f ≠ 9 → f ≠ 10 → M' 53 f = M 53 f)
theorem FR.rf (M : Mem) : FR M M := ⟨fun _ _ => rfl, fun _ _ _ _ _ _ => rfl⟩
theorem FR.tr {M M' M'' : Mem} (h : FR M M') (h' : FR M' M'') : FR M M'' := ⟨fun k hk => (h'.1 k hk).trans (h.1 k hk), fun f a b c d e => (h'.2 f a b c d e).trans (h.2 f a b c d e)⟩
theorem FR.en {M0 M M' : Mem} (h : FR M M') (hE : EN M0 M) : EN M0 M' := hE.of (fun k hk => h.1 k (by omega))
theorem FR.n {M M' : Mem} (h : FR M M') : M' 53 0 = M 53 0 := h.2 0 (by omega) (by omega) (by omega) (by omega) (by omega)
theorem smS {n : Nat} {f : Nat → Int} {x : Int} (h : f n = x) : sm n f + x = sm (n + 1) f := by rw [← h]; rfl
noncomputable def sqD (M0 : Mem) (a b : Nat) : Int := cif (eD M0 a b) (wD M0 a b * wD M0 a b) 0
set_option maxRecDepth 100000 in
set_option maxHeartbeats 4000000 in
theorem d_before (l : Launch) {M0 M : Mem} {T : Nat} (hE : EN M0 M) (hG : GT M0 T) (hT : M 53 0 = (T : Int)) : Cm l yX6_before cX6_before 5 (some .long) 3 84 [vR 53] M (fun r M' => FR M M' ∧ r = some (vL (sm T (fun a => sm T (fun b => if a < b then sqD M0 a b else 0))))) := by
  refine cmo [some (vR 53), none, none, none, none] ?_
  have h8 := hG.1
  have outer : ∀ (n : Nat) (a : Nat) (M1 : Mem), T < a + n → a ≤ T → FR M M1 → Em l yX6_before cX6_before 5 (some .long) 3 84 (fun r M' => FR M M' ∧ r = some (vL (sm T (fun a => sm T (fun b => if a < b then sqD M0 a b else 0))))) 4 [some (vR 53), some (vL (sm a (fun a => sm T (fun b => if a < b then sqD M0 a b else 0)))), none, some (vI (a : Int)), none] [] M1 := by
    intro n
    induction n with
    | zero => intro a M1 h1 h2 hF; omega
    | succ n ihouter =>
      intro a M1 h1 h2 hF
      have hN := hF.n
      refine ev_iload_n dX6_before_4 rfl ?_
      refine ev_aload_n dX6_before_5 rfl ?_
      refine em_getI fX6_40.g dX6_before_6 lay_53 rfl ?_
      refine ev_icmp_ge 64 dX6_before_9 (by omega) (by omega) (fun c1 => ?_) (fun c1 => ?_)
      · refine ev_lload_n dX6_before_64 rfl ?_
        have ea : a = T := by omega
        subst ea
        exact em_lret dX6_before_65 ⟨hF, rfl⟩
      · refine ev_iload_n dX6_before_12 rfl ?_
        refine ev_iconst dX6_before_13 ?_
        refine ev_iadd dX6_before_14 ?_
        refine ev_istore dX6_before_15 (by decide) ?_
        refine ev_ls [some (vR _), some (vL _), none, some (vI _), some (vI _)] rfl ?_
        have inner : ∀ (m : Nat) (b : Nat) (M2 : Mem), T < b + m → b ≤ T → a < b → FR M M2 → Em l yX6_before cX6_before 5 (some .long) 3 84 (fun r M' => FR M M' ∧ r = some (vL (sm T (fun a => sm T (fun b => if a < b then sqD M0 a b else 0))))) 17 [some (vR 53), some (vL (sm a (fun a => sm T (fun b => if a < b then sqD M0 a b else 0)) + sm b (fun b => if a < b then sqD M0 a b else 0))), none, some (vI (a : Int)), some (vI (b : Int))] [] M2 := by
          intro m
          induction m with
          | zero => intro b M2 h1 h2 hab hF2; omega
          | succ m ihinner =>
            intro b M2 h1 h2 hab hF2
            have hN := hF2.n
            have hE2 := hF2.en hE
            refine ev_iload dX6_before_17 rfl ?_
            refine ev_aload_n dX6_before_19 rfl ?_
            refine em_getI fX6_40.g dX6_before_20 lay_53 rfl ?_
            refine ev_icmp_ge 58 dX6_before_23 (by omega) (by omega) (fun c2 => ?_) (fun c2 => ?_)
            · have eb : b = T := by omega
              subst eb
              refine ev_iinc dX6_before_58 rfl (by decide) ?_
              refine ev_ls [some (vR _), some (vL _), none, some (vI _), some (vI _)] rfl ?_
              refine ev_goto 4 dX6_before_61 ?_
              refine ev_mask [true, true, true, true, false] ?_
              exact ihouter (a + 1) M2 (by omega) (by omega) hF2
            · refine ev_lload_n dX6_before_26 rfl ?_
              refine ev_aload_n dX6_before_27 rfl ?_
              refine ev_iload_n dX6_before_28 rfl ?_
              refine ev_iload dX6_before_29 rfl ?_
              refine em_V2 (d_differ l hE2 hG (by omega) (by omega)) mX6_118 dX6_before_31 lay_53 ?_
              rintro r M3 ⟨k31, f31, hE31, z31, rfl, hd | hd⟩
              · refine ev_if_eq 49 dX6_before_34 (by omega) (fun c34 => ?_) (fun c34 => ?_)
                · refine ev_lconst0 dX6_before_49 ?_
                  refine ev_ladd dX6_before_50 ?_
                  refine ev_lstore_n dX6_before_51 (by decide) ?_
                  refine ev_ls [some (vR _), some (vL _), none, some (vI _), some (vI _)] rfl ?_
                  refine ev_iinc dX6_before_52 rfl (by decide) ?_
                  refine ev_ls [some (vR _), some (vL _), none, some (vI _), some (vI _)] rfl ?_
                  refine ev_goto 17 dX6_before_55 ?_
                  first | (exfalso; omega) | (rw [hd.2.2, Int.add_assoc, smS (n := b) (f := fun b => if a < b then sqD M0 a b else 0) (show (if a < b then sqD M0 a b else 0) = wD M0 a b * wD M0 a b by rw [if_pos hab]; exact cif_pos hd.2.1)]; exact ihinner (b + 1) M3 (by omega) (by omega) (by omega) (hF2.tr ⟨k31, f31⟩)) | (rw [Int.add_assoc, smS (n := b) (f := fun b => if a < b then sqD M0 a b else 0) (show (if a < b then sqD M0 a b else 0) = 0 by rw [if_pos hab]; exact cif_neg hd.2)]; exact ihinner (b + 1) M3 (by omega) (by omega) (by omega) (hF2.tr ⟨k31, f31⟩))
                · refine ev_aload_n dX6_before_37 rfl ?_
                  refine em_getL fX6_114.g dX6_before_38 lay_53 rfl ?_
                  refine ev_aload_n dX6_before_41 rfl ?_
                  refine em_getL fX6_114.g dX6_before_42 lay_53 rfl ?_
                  refine ev_lmul dX6_before_45 ?_
                  refine ev_goto 50 dX6_before_46 ?_
                  refine ev_ladd dX6_before_50 ?_
                  refine ev_lstore_n dX6_before_51 (by decide) ?_
                  refine ev_ls [some (vR _), some (vL _), none, some (vI _), some (vI _)] rfl ?_
                  refine ev_iinc dX6_before_52 rfl (by decide) ?_
                  refine ev_ls [some (vR _), some (vL _), none, some (vI _), some (vI _)] rfl ?_
                  refine ev_goto 17 dX6_before_55 ?_
                  first | (exfalso; omega) | (rw [hd.2.2, Int.add_assoc, smS (n := b) (f := fun b => if a < b then sqD M0 a b else 0) (show (if a < b then sqD M0 a b else 0) = wD M0 a b * wD M0 a b by rw [if_pos hab]; exact cif_pos hd.2.1)]; exact ihinner (b + 1) M3 (by omega) (by omega) (by omega) (hF2.tr ⟨k31, f31⟩)) | (rw [Int.add_assoc, smS (n := b) (f := fun b => if a < b then sqD M0 a b else 0) (show (if a < b then sqD M0 a b else 0) = 0 by rw [if_pos hab]; exact cif_neg hd.2)]; exact ihinner (b + 1) M3 (by omega) (by omega) (by omega) (hF2.tr ⟨k31, f31⟩))
              · refine ev_if_eq 49 dX6_before_34 (by omega) (fun c34 => ?_) (fun c34 => ?_)
                · refine ev_lconst0 dX6_before_49 ?_
                  refine ev_ladd dX6_before_50 ?_
                  refine ev_lstore_n dX6_before_51 (by decide) ?_
                  refine ev_ls [some (vR _), some (vL _), none, some (vI _), some (vI _)] rfl ?_
                  refine ev_iinc dX6_before_52 rfl (by decide) ?_
                  refine ev_ls [some (vR _), some (vL _), none, some (vI _), some (vI _)] rfl ?_
                  refine ev_goto 17 dX6_before_55 ?_
                  first | (exfalso; omega) | (rw [hd.2.2, Int.add_assoc, smS (n := b) (f := fun b => if a < b then sqD M0 a b else 0) (show (if a < b then sqD M0 a b else 0) = wD M0 a b * wD M0 a b by rw [if_pos hab]; exact cif_pos hd.2.1)]; exact ihinner (b + 1) M3 (by omega) (by omega) (by omega) (hF2.tr ⟨k31, f31⟩)) | (rw [Int.add_assoc, smS (n := b) (f := fun b => if a < b then sqD M0 a b else 0) (show (if a < b then sqD M0 a b else 0) = 0 by rw [if_pos hab]; exact cif_neg hd.2)]; exact ihinner (b + 1) M3 (by omega) (by omega) (by omega) (hF2.tr ⟨k31, f31⟩))
                · refine ev_aload_n dX6_before_37 rfl ?_
                  refine em_getL fX6_114.g dX6_before_38 lay_53 rfl ?_
                  refine ev_aload_n dX6_before_41 rfl ?_
                  refine em_getL fX6_114.g dX6_before_42 lay_53 rfl ?_
                  refine ev_lmul dX6_before_45 ?_
                  refine ev_goto 50 dX6_before_46 ?_
                  refine ev_ladd dX6_before_50 ?_
                  refine ev_lstore_n dX6_before_51 (by decide) ?_
                  refine ev_ls [some (vR _), some (vL _), none, some (vI _), some (vI _)] rfl ?_
                  refine ev_iinc dX6_before_52 rfl (by decide) ?_
                  refine ev_ls [some (vR _), some (vL _), none, some (vI _), some (vI _)] rfl ?_
                  refine ev_goto 17 dX6_before_55 ?_
                  first | (exfalso; omega) | (rw [hd.2.2, Int.add_assoc, smS (n := b) (f := fun b => if a < b then sqD M0 a b else 0) (show (if a < b then sqD M0 a b else 0) = wD M0 a b * wD M0 a b by rw [if_pos hab]; exact cif_pos hd.2.1)]; exact ihinner (b + 1) M3 (by omega) (by omega) (by omega) (hF2.tr ⟨k31, f31⟩)) | (rw [Int.add_assoc, smS (n := b) (f := fun b => if a < b then sqD M0 a b else 0) (show (if a < b then sqD M0 a b else 0) = 0 by rw [if_pos hab]; exact cif_neg hd.2)]; exact ihinner (b + 1) M3 (by omega) (by omega) (by omega) (hF2.tr ⟨k31, f31⟩))
        have hi0 := inner (T + 1) (a + 1) M1 (by omega) (by omega) (by omega) hF
        rw [show sm (a + 1) (fun b => if a < b then sqD M0 a b else 0) = 0 from sm_zero (fun i hi => if_neg (by omega)), Int.add_zero] at hi0
        exact hi0
  refine ev_lconst0 dX6_before_0 ?_
  refine ev_lstore_n dX6_before_1 (by decide) ?_
  refine ev_ls [some (vR _), some (vL _), none, none, none] rfl ?_
  refine ev_iconst dX6_before_2 ?_
  refine ev_istore_n dX6_before_3 (by decide) ?_
  refine ev_ls [some (vR _), some (vL _), none, some (vI _), none] rfl ?_
  exact outer (T + 1) 0 M (by omega) (by omega) (FR.rf M)
def cntN (f : Nat → Int) (c : Int) (T : Nat) : Int := sm T (fun t => if f t = c then 1 else 0)
theorem cntN_bd (f : Nat → Int) (c : Int) (T : Nat) : 0 ≤ cntN f c T ∧ cntN f c T ≤ T := by
  have h1 : ∀ i, i < T → (0 : Int) ≤ (fun t => if f t = c then (1 : Int) else 0) i := fun i _ => by show (0 : Int) ≤ if f i = c then 1 else 0; split <;> omega
  have h2 := sm_bd (f := fun t => if f t = c then (1 : Int) else 0) (c := 1) (n := T) (fun i _ => by show (-1 : Int) ≤ (if f i = c then 1 else 0) ∧ (if f i = c then (1 : Int) else 0) ≤ 1; split <;> omega)
  exact ⟨sm_nonneg h1, by have := h2.2; rw [Int.mul_one] at this; exact this⟩
set_option maxRecDepth 100000 in
set_option maxHeartbeats 4000000 in
theorem d_members (l : Launch) {M : Mem} {T : Nat} {c : Int} (h8 : T ≤ 8) (hT : M 53 0 = (T : Int)) (hc : i32 c) (hn : ∀ t, t < T → i32 (M 58 t)) : Cm l yX6_members cX6_members 4 (some .int) 0 0 [vR 53, vI c] M (rI (cntN (M 58) c T) M) := by
  refine cmo [some (vR 53), some (vI c), none, none] ?_
  have lp : ∀ (n : Nat) (t : Nat), T < t + n → t ≤ T → Em l yX6_members cX6_members 4 (some .int) 0 0 (rI (cntN (M 58) c T) M) 4 [some (vR 53), some (vI c), some (vI (cntN (M 58) c t)), some (vI (t : Int))] [] M := by
    intro n
    induction n with
    | zero => intro t h1 h2; omega
    | succ n ihlp =>
      intro t h1 h2
      have hb := cntN_bd (M 58) c t
      refine ev_iload_n dX6_members_4 rfl ?_
      refine ev_aload_n dX6_members_5 rfl ?_
      refine em_getI fX6_40.g dX6_members_6 lay_53 rfl ?_
      refine ev_icmp_ge 36 dX6_members_9 (by omega) (by omega) (fun c1 => ?_) (fun c1 => ?_)
      · refine ev_iload_n dX6_members_36 rfl ?_
        have et : t = T := by omega
        subst et
        exact em_iret dX6_members_37 ⟨rfl, rfl⟩
      · have hnt := hn t (by omega)
        refine ev_iload_n dX6_members_12 rfl ?_
        refine ev_aload_n dX6_members_13 rfl ?_
        refine em_getR fX6_23.g dX6_members_14 lay_53 rfl ?_
        refine ev_iload_n dX6_members_17 rfl ?_
        refine en_iald t dX6_members_18 lay_58 (by omega) (by omega) ?_
        refine ev_iload_n dX6_members_19 rfl ?_
        refine ev_icmp_ne 27 dX6_members_20 (by omega) (by omega) (fun c20 => ?_) (fun c20 => ?_)
        · refine ev_iconst dX6_members_27 ?_
          refine ev_iadd dX6_members_28 ?_
          refine ev_istore_n dX6_members_29 (by decide) ?_
          refine ev_ls [some (vR _), some (vI _), some (vI _), some (vI _)] rfl ?_
          refine ev_iinc dX6_members_30 rfl (by decide) ?_
          refine ev_ls [some (vR _), some (vI _), some (vI _), some (vI _)] rfl ?_
          refine ev_goto 4 dX6_members_33 ?_
          first | rw [show cntN (M 58) c t + 1 = cntN (M 58) c (t + 1) from smS (show (if M 58 t = c then (1 : Int) else 0) = 1 from if_pos (by omega))] | rw [show cntN (M 58) c t + 0 = cntN (M 58) c (t + 1) from smS (show (if M 58 t = c then (1 : Int) else 0) = 0 from if_neg (by omega))]
          exact ihlp (t + 1) (by omega) (by omega)
        · refine ev_iconst dX6_members_23 ?_
          refine ev_goto 28 dX6_members_24 ?_
          refine ev_iadd dX6_members_28 ?_
          refine ev_istore_n dX6_members_29 (by decide) ?_
          refine ev_ls [some (vR _), some (vI _), some (vI _), some (vI _)] rfl ?_
          refine ev_iinc dX6_members_30 rfl (by decide) ?_
          refine ev_ls [some (vR _), some (vI _), some (vI _), some (vI _)] rfl ?_
          refine ev_goto 4 dX6_members_33 ?_
          first | rw [show cntN (M 58) c t + 1 = cntN (M 58) c (t + 1) from smS (show (if M 58 t = c then (1 : Int) else 0) = 1 from if_pos (by omega))] | rw [show cntN (M 58) c t + 0 = cntN (M 58) c (t + 1) from smS (show (if M 58 t = c then (1 : Int) else 0) = 0 from if_neg (by omega))]
          exact ihlp (t + 1) (by omega) (by omega)
  refine ev_iconst dX6_members_0 ?_
  refine ev_istore_n dX6_members_1 (by decide) ?_
  refine ev_ls [some (vR _), some (vI _), some (vI _), none] rfl ?_
  refine ev_iconst dX6_members_2 ?_
  refine ev_istore_n dX6_members_3 (by decide) ?_
  refine ev_ls [some (vR _), some (vI _), some (vI _), some (vI _)] rfl ?_
  exact lp (T + 1) 0 (by omega) (by omega)
