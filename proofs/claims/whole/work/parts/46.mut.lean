abbrev VT (x0 y0 x1 y1 t0 t1 : Int) : Prop := (-100 ≤ x0 ∧ x0 ≤ 100) ∧ (-100 ≤ y0 ∧ y0 ≤ 100) ∧ (-100 ≤ x1 ∧ x1 ≤ 100) ∧ (-100 ≤ y1 ∧ y1 ≤ 100) ∧ (0 ≤ t0 ∧ t0 ≤ 1000000) ∧ (0 ≤ t1 ∧ t1 ≤ 1000000) ∧ t0 < t1 ∧ ¬ (x0 = x1 ∧ y0 = y1)
noncomputable def fTrack (T : Nat) (x0 y0 x1 y1 t0 t1 : Int) : Int := cif (VT x0 y0 x1 y1 t0 t1) (if T = 8 then -3 else (T : Int)) (-1)
def TUc (M : Mem) (T : Nat) (x0 y0 x1 y1 t0 t1 : Int) (M' : Mem) : Prop := (∀ k, k ≠ 0 → k ≠ 2 + 2 * T → M' k = M k) ∧ M' 0 5 = (T : Int) + 1 ∧ M' 0 6 = 1 ∧ M' (2 + 2 * T) 0 = x0 ∧ M' (2 + 2 * T) 1 = y0 ∧ M' (2 + 2 * T) 2 = t0 ∧ M' (2 + 2 * T) 3 = x1 - x0 ∧ M' (2 + 2 * T) 4 = y1 - y0 ∧ M' (2 + 2 * T) 5 = t1 - t0 ∧ M' (2 + 2 * T) 6 = M (2 + 2 * T) 6
def TUm (M : Mem) (T : Nat) (x0 y0 x1 y1 t0 t1 : Int) (M' : Mem) : Prop := (∀ k, k ≠ 53 → k ≠ 54 → M' k = M k) ∧ M' 53 0 = (T : Int) + 1 ∧ M' 53 4 = M 53 4 ∧ M' 54 (6 * T) = x0 ∧ M' 54 (6 * T + 1) = y0 ∧ M' 54 (6 * T + 2) = x1 ∧ M' 54 (6 * T + 3) = y1 ∧ M' 54 (6 * T + 4) = t0 ∧ M' 54 (6 * T + 5) = t1 ∧ ∀ q, q < 6 * T → M' 54 q = M 54 q
set_option maxRecDepth 100000 in
set_option maxHeartbeats 4000000 in
theorem c_track (l : Launch) {M : Mem} {T : Nat} (h8 : T ≤ 8) (h5 : M 0 5 = (T : Int)) {x0 y0 x1 y1 t0 t1 : Int} (hx0 : i32 x0) (hy0 : i32 y0) (hx1 : i32 x1) (hy1 : i32 y1) (ht0 : i32 t0) (ht1 : i32 t1) : Cm l yX5_track cX5_track 11 (some .int) 2 42 [vR 0, vI x0, vI y0, vI x1, vI y1, vI t0, vI t1] M (fun r M' => r = some (vI (fTrack T x0 y0 x1 y1 t0 t1)) ∧ ((¬ (VT x0 y0 x1 y1 t0 t1 ∧ T < 8) ∧ M' = M) ∨ (VT x0 y0 x1 y1 t0 t1 ∧ T < 8 ∧ TUc M T x0 y0 x1 y1 t0 t1 M'))) := by
  refine cmo [some (vR 0), some (vI x0), some (vI y0), some (vI x1), some (vI y1), some (vI t0), some (vI t1), none, none, none, none] ?_
  refine ev_iload_n dX5_track_0 rfl ?_
  refine em_S1 (c_isOnMap l _ (by omega)) mX5_52 dX5_track_1 ?_
  rintro r M ⟨rfl, z1, rfl, h1⟩
  refine ev_if_eq 33 dX5_track_4 (by omega) (fun c4 => ?_) (fun c4 => ?_)
  · refine ev_iconst dX5_track_33 ?_
    refine ev_istore dX5_track_34 (by decide) ?_
    refine ev_ls [some (vR _), some (vI _), some (vI _), some (vI _), some (vI _), some (vI _), some (vI _), some (vI _), none, none, none] rfl ?_
    refine ev_iload dX5_track_36 rfl ?_
    refine ev_iconst dX5_track_38 ?_
    refine ev_ldc (1000000) kX5_56 dX5_track_39 (by decide) ?_
    refine em_S3 (c_isWithin l _ (by omega) (by omega) (by omega)) mX5_57 dX5_track_41 ?_
    rintro r M ⟨rfl, z41, rfl, h41⟩
    refine ev_if_eq 69 dX5_track_44 (by omega) (fun c44 => ?_) (fun c44 => ?_)
    · refine ev_iconst dX5_track_69 ?_
      refine ev_istore dX5_track_70 (by decide) ?_
      refine ev_ls [some (vR _), some (vI _), some (vI _), some (vI _), some (vI _), some (vI _), some (vI _), some (vI _), some (vI _), none, none] rfl ?_
      refine ev_iload_n dX5_track_72 rfl ?_
      refine ev_iload_n dX5_track_73 rfl ?_
      refine ev_icmp_ne 87 dX5_track_74 (by omega) (by omega) (fun c74 => ?_) (fun c74 => ?_)
      · refine ev_iconst dX5_track_87 ?_
        refine ev_istore dX5_track_88 (by decide) ?_
        refine ev_ls [some (vR _), some (vI _), some (vI _), some (vI _), some (vI _), some (vI _), some (vI _), some (vI _), some (vI _), some (vI _), none] rfl ?_
        refine ev_iload dX5_track_90 rfl ?_
        refine ev_if_eq 105 dX5_track_92 (by omega) (fun c92 => ?_) (fun c92 => ?_)
        · refine ev_iconst dX5_track_105 ?_
          exact em_iret dX5_track_106 ⟨by unfold fTrack; rw [cif_neg (by omega)], Or.inl ⟨by omega, rfl⟩⟩
        · refine ev_iload dX5_track_95 rfl ?_
          refine ev_if_eq 105 dX5_track_97 (by omega) (fun c97 => ?_) (fun c97 => ?_)
          · refine ev_iconst dX5_track_105 ?_
            exact em_iret dX5_track_106 ⟨by unfold fTrack; rw [cif_neg (by omega)], Or.inl ⟨by omega, rfl⟩⟩
          · refine ev_iload dX5_track_100 rfl ?_
            refine ev_if_eq 107 dX5_track_102 (by omega) (fun c102 => ?_) (fun c102 => ?_)
            · exfalso; omega
            · refine ev_iconst dX5_track_105 ?_
              exact em_iret dX5_track_106 ⟨by unfold fTrack; rw [cif_neg (by omega)], Or.inl ⟨by omega, rfl⟩⟩
      · refine ev_iload_n dX5_track_77 rfl ?_
        refine ev_iload dX5_track_78 rfl ?_
        refine ev_icmp_ne 87 dX5_track_80 (by omega) (by omega) (fun c80 => ?_) (fun c80 => ?_)
        · refine ev_iconst dX5_track_87 ?_
          refine ev_istore dX5_track_88 (by decide) ?_
          refine ev_ls [some (vR _), some (vI _), some (vI _), some (vI _), some (vI _), some (vI _), some (vI _), some (vI _), some (vI _), some (vI _), none] rfl ?_
          refine ev_iload dX5_track_90 rfl ?_
          refine ev_if_eq 105 dX5_track_92 (by omega) (fun c92 => ?_) (fun c92 => ?_)
          · refine ev_iconst dX5_track_105 ?_
            exact em_iret dX5_track_106 ⟨by unfold fTrack; rw [cif_neg (by omega)], Or.inl ⟨by omega, rfl⟩⟩
          · refine ev_iload dX5_track_95 rfl ?_
            refine ev_if_eq 105 dX5_track_97 (by omega) (fun c97 => ?_) (fun c97 => ?_)
            · refine ev_iconst dX5_track_105 ?_
              exact em_iret dX5_track_106 ⟨by unfold fTrack; rw [cif_neg (by omega)], Or.inl ⟨by omega, rfl⟩⟩
            · refine ev_iload dX5_track_100 rfl ?_
              refine ev_if_eq 107 dX5_track_102 (by omega) (fun c102 => ?_) (fun c102 => ?_)
              · exfalso; omega
              · refine ev_iconst dX5_track_105 ?_
                exact em_iret dX5_track_106 ⟨by unfold fTrack; rw [cif_neg (by omega)], Or.inl ⟨by omega, rfl⟩⟩
        · refine ev_iconst dX5_track_83 ?_
          refine ev_goto 88 dX5_track_84 ?_
          refine ev_istore dX5_track_88 (by decide) ?_
          refine ev_ls [some (vR _), some (vI _), some (vI _), some (vI _), some (vI _), some (vI _), some (vI _), some (vI _), some (vI _), some (vI _), none] rfl ?_
          refine ev_iload dX5_track_90 rfl ?_
          refine ev_if_eq 105 dX5_track_92 (by omega) (fun c92 => ?_) (fun c92 => ?_)
          · refine ev_iconst dX5_track_105 ?_
            exact em_iret dX5_track_106 ⟨by unfold fTrack; rw [cif_neg (by omega)], Or.inl ⟨by omega, rfl⟩⟩
          · refine ev_iload dX5_track_95 rfl ?_
            refine ev_if_eq 105 dX5_track_97 (by omega) (fun c97 => ?_) (fun c97 => ?_)
            · refine ev_iconst dX5_track_105 ?_
              exact em_iret dX5_track_106 ⟨by unfold fTrack; rw [cif_neg (by omega)], Or.inl ⟨by omega, rfl⟩⟩
            · refine ev_iload dX5_track_100 rfl ?_
              refine ev_if_eq 107 dX5_track_102 (by omega) (fun c102 => ?_) (fun c102 => ?_)
              · exfalso; omega
              · refine ev_iconst dX5_track_105 ?_
                exact em_iret dX5_track_106 ⟨by unfold fTrack; rw [cif_neg (by omega)], Or.inl ⟨by omega, rfl⟩⟩
    · refine ev_iload dX5_track_47 rfl ?_
      refine ev_iconst dX5_track_49 ?_
      refine ev_ldc (1000000) kX5_56 dX5_track_50 (by decide) ?_
      refine em_S3 (c_isWithin l _ (by omega) (by omega) (by omega)) mX5_57 dX5_track_52 ?_
      rintro r M ⟨rfl, z52, rfl, h52⟩
      refine ev_if_eq 69 dX5_track_55 (by omega) (fun c55 => ?_) (fun c55 => ?_)
      · refine ev_iconst dX5_track_69 ?_
        refine ev_istore dX5_track_70 (by decide) ?_
        refine ev_ls [some (vR _), some (vI _), some (vI _), some (vI _), some (vI _), some (vI _), some (vI _), some (vI _), some (vI _), none, none] rfl ?_
        refine ev_iload_n dX5_track_72 rfl ?_
        refine ev_iload_n dX5_track_73 rfl ?_
        refine ev_icmp_ne 87 dX5_track_74 (by omega) (by omega) (fun c74 => ?_) (fun c74 => ?_)
        · refine ev_iconst dX5_track_87 ?_
          refine ev_istore dX5_track_88 (by decide) ?_
          refine ev_ls [some (vR _), some (vI _), some (vI _), some (vI _), some (vI _), some (vI _), some (vI _), some (vI _), some (vI _), some (vI _), none] rfl ?_
          refine ev_iload dX5_track_90 rfl ?_
          refine ev_if_eq 105 dX5_track_92 (by omega) (fun c92 => ?_) (fun c92 => ?_)
          · refine ev_iconst dX5_track_105 ?_
            exact em_iret dX5_track_106 ⟨by unfold fTrack; rw [cif_neg (by omega)], Or.inl ⟨by omega, rfl⟩⟩
          · refine ev_iload dX5_track_95 rfl ?_
            refine ev_if_eq 105 dX5_track_97 (by omega) (fun c97 => ?_) (fun c97 => ?_)
            · refine ev_iconst dX5_track_105 ?_
              exact em_iret dX5_track_106 ⟨by unfold fTrack; rw [cif_neg (by omega)], Or.inl ⟨by omega, rfl⟩⟩
            · refine ev_iload dX5_track_100 rfl ?_
              refine ev_if_eq 107 dX5_track_102 (by omega) (fun c102 => ?_) (fun c102 => ?_)
              · exfalso; omega
              · refine ev_iconst dX5_track_105 ?_
                exact em_iret dX5_track_106 ⟨by unfold fTrack; rw [cif_neg (by omega)], Or.inl ⟨by omega, rfl⟩⟩
        · refine ev_iload_n dX5_track_77 rfl ?_
          refine ev_iload dX5_track_78 rfl ?_
          refine ev_icmp_ne 87 dX5_track_80 (by omega) (by omega) (fun c80 => ?_) (fun c80 => ?_)
          · refine ev_iconst dX5_track_87 ?_
            refine ev_istore dX5_track_88 (by decide) ?_
            refine ev_ls [some (vR _), some (vI _), some (vI _), some (vI _), some (vI _), some (vI _), some (vI _), some (vI _), some (vI _), some (vI _), none] rfl ?_
            refine ev_iload dX5_track_90 rfl ?_
            refine ev_if_eq 105 dX5_track_92 (by omega) (fun c92 => ?_) (fun c92 => ?_)
            · refine ev_iconst dX5_track_105 ?_
              exact em_iret dX5_track_106 ⟨by unfold fTrack; rw [cif_neg (by omega)], Or.inl ⟨by omega, rfl⟩⟩
            · refine ev_iload dX5_track_95 rfl ?_
              refine ev_if_eq 105 dX5_track_97 (by omega) (fun c97 => ?_) (fun c97 => ?_)
              · refine ev_iconst dX5_track_105 ?_
                exact em_iret dX5_track_106 ⟨by unfold fTrack; rw [cif_neg (by omega)], Or.inl ⟨by omega, rfl⟩⟩
              · refine ev_iload dX5_track_100 rfl ?_
                refine ev_if_eq 107 dX5_track_102 (by omega) (fun c102 => ?_) (fun c102 => ?_)
                · exfalso; omega
                · refine ev_iconst dX5_track_105 ?_
                  exact em_iret dX5_track_106 ⟨by unfold fTrack; rw [cif_neg (by omega)], Or.inl ⟨by omega, rfl⟩⟩
          · refine ev_iconst dX5_track_83 ?_
            refine ev_goto 88 dX5_track_84 ?_
            refine ev_istore dX5_track_88 (by decide) ?_
            refine ev_ls [some (vR _), some (vI _), some (vI _), some (vI _), some (vI _), some (vI _), some (vI _), some (vI _), some (vI _), some (vI _), none] rfl ?_
            refine ev_iload dX5_track_90 rfl ?_
            refine ev_if_eq 105 dX5_track_92 (by omega) (fun c92 => ?_) (fun c92 => ?_)
            · refine ev_iconst dX5_track_105 ?_
              exact em_iret dX5_track_106 ⟨by unfold fTrack; rw [cif_neg (by omega)], Or.inl ⟨by omega, rfl⟩⟩
            · refine ev_iload dX5_track_95 rfl ?_
              refine ev_if_eq 105 dX5_track_97 (by omega) (fun c97 => ?_) (fun c97 => ?_)
              · refine ev_iconst dX5_track_105 ?_
                exact em_iret dX5_track_106 ⟨by unfold fTrack; rw [cif_neg (by omega)], Or.inl ⟨by omega, rfl⟩⟩
              · refine ev_iload dX5_track_100 rfl ?_
                refine ev_if_eq 107 dX5_track_102 (by omega) (fun c102 => ?_) (fun c102 => ?_)
                · exfalso; omega
                · refine ev_iconst dX5_track_105 ?_
                  exact em_iret dX5_track_106 ⟨by unfold fTrack; rw [cif_neg (by omega)], Or.inl ⟨by omega, rfl⟩⟩
      · refine ev_iload dX5_track_58 rfl ?_
        refine ev_iload dX5_track_60 rfl ?_
        refine ev_icmp_ge 69 dX5_track_62 (by omega) (by omega) (fun c62 => ?_) (fun c62 => ?_)
        · refine ev_iconst dX5_track_69 ?_
          refine ev_istore dX5_track_70 (by decide) ?_
          refine ev_ls [some (vR _), some (vI _), some (vI _), some (vI _), some (vI _), some (vI _), some (vI _), some (vI _), some (vI _), none, none] rfl ?_
          refine ev_iload_n dX5_track_72 rfl ?_
          refine ev_iload_n dX5_track_73 rfl ?_
          refine ev_icmp_ne 87 dX5_track_74 (by omega) (by omega) (fun c74 => ?_) (fun c74 => ?_)
          · refine ev_iconst dX5_track_87 ?_
            refine ev_istore dX5_track_88 (by decide) ?_
            refine ev_ls [some (vR _), some (vI _), some (vI _), some (vI _), some (vI _), some (vI _), some (vI _), some (vI _), some (vI _), some (vI _), none] rfl ?_
            refine ev_iload dX5_track_90 rfl ?_
            refine ev_if_eq 105 dX5_track_92 (by omega) (fun c92 => ?_) (fun c92 => ?_)
            · refine ev_iconst dX5_track_105 ?_
              exact em_iret dX5_track_106 ⟨by unfold fTrack; rw [cif_neg (by omega)], Or.inl ⟨by omega, rfl⟩⟩
            · refine ev_iload dX5_track_95 rfl ?_
              refine ev_if_eq 105 dX5_track_97 (by omega) (fun c97 => ?_) (fun c97 => ?_)
              · refine ev_iconst dX5_track_105 ?_
                exact em_iret dX5_track_106 ⟨by unfold fTrack; rw [cif_neg (by omega)], Or.inl ⟨by omega, rfl⟩⟩
              · refine ev_iload dX5_track_100 rfl ?_
                refine ev_if_eq 107 dX5_track_102 (by omega) (fun c102 => ?_) (fun c102 => ?_)
                · exfalso; omega
                · refine ev_iconst dX5_track_105 ?_
                  exact em_iret dX5_track_106 ⟨by unfold fTrack; rw [cif_neg (by omega)], Or.inl ⟨by omega, rfl⟩⟩
          · refine ev_iload_n dX5_track_77 rfl ?_
            refine ev_iload dX5_track_78 rfl ?_
            refine ev_icmp_ne 87 dX5_track_80 (by omega) (by omega) (fun c80 => ?_) (fun c80 => ?_)
            · refine ev_iconst dX5_track_87 ?_
              refine ev_istore dX5_track_88 (by decide) ?_
              refine ev_ls [some (vR _), some (vI _), some (vI _), some (vI _), some (vI _), some (vI _), some (vI _), some (vI _), some (vI _), some (vI _), none] rfl ?_
              refine ev_iload dX5_track_90 rfl ?_
              refine ev_if_eq 105 dX5_track_92 (by omega) (fun c92 => ?_) (fun c92 => ?_)
              · refine ev_iconst dX5_track_105 ?_
                exact em_iret dX5_track_106 ⟨by unfold fTrack; rw [cif_neg (by omega)], Or.inl ⟨by omega, rfl⟩⟩
              · refine ev_iload dX5_track_95 rfl ?_
                refine ev_if_eq 105 dX5_track_97 (by omega) (fun c97 => ?_) (fun c97 => ?_)
                · refine ev_iconst dX5_track_105 ?_
                  exact em_iret dX5_track_106 ⟨by unfold fTrack; rw [cif_neg (by omega)], Or.inl ⟨by omega, rfl⟩⟩
                · refine ev_iload dX5_track_100 rfl ?_
                  refine ev_if_eq 107 dX5_track_102 (by omega) (fun c102 => ?_) (fun c102 => ?_)
                  · exfalso; omega
                  · refine ev_iconst dX5_track_105 ?_
                    exact em_iret dX5_track_106 ⟨by unfold fTrack; rw [cif_neg (by omega)], Or.inl ⟨by omega, rfl⟩⟩
            · refine ev_iconst dX5_track_83 ?_
              refine ev_goto 88 dX5_track_84 ?_
              refine ev_istore dX5_track_88 (by decide) ?_
              refine ev_ls [some (vR _), some (vI _), some (vI _), some (vI _), some (vI _), some (vI _), some (vI _), some (vI _), some (vI _), some (vI _), none] rfl ?_
              refine ev_iload dX5_track_90 rfl ?_
              refine ev_if_eq 105 dX5_track_92 (by omega) (fun c92 => ?_) (fun c92 => ?_)
              · refine ev_iconst dX5_track_105 ?_
                exact em_iret dX5_track_106 ⟨by unfold fTrack; rw [cif_neg (by omega)], Or.inl ⟨by omega, rfl⟩⟩
              · refine ev_iload dX5_track_95 rfl ?_
                refine ev_if_eq 105 dX5_track_97 (by omega) (fun c97 => ?_) (fun c97 => ?_)
                · refine ev_iconst dX5_track_105 ?_
                  exact em_iret dX5_track_106 ⟨by unfold fTrack; rw [cif_neg (by omega)], Or.inl ⟨by omega, rfl⟩⟩
                · refine ev_iload dX5_track_100 rfl ?_
                  refine ev_if_eq 107 dX5_track_102 (by omega) (fun c102 => ?_) (fun c102 => ?_)
                  · exfalso; omega
                  · refine ev_iconst dX5_track_105 ?_
                    exact em_iret dX5_track_106 ⟨by unfold fTrack; rw [cif_neg (by omega)], Or.inl ⟨by omega, rfl⟩⟩
        · refine ev_iconst dX5_track_65 ?_
          refine ev_goto 70 dX5_track_66 ?_
          refine ev_istore dX5_track_70 (by decide) ?_
          refine ev_ls [some (vR _), some (vI _), some (vI _), some (vI _), some (vI _), some (vI _), some (vI _), some (vI _), some (vI _), none, none] rfl ?_
          refine ev_iload_n dX5_track_72 rfl ?_
          refine ev_iload_n dX5_track_73 rfl ?_
          refine ev_icmp_ne 87 dX5_track_74 (by omega) (by omega) (fun c74 => ?_) (fun c74 => ?_)
          · refine ev_iconst dX5_track_87 ?_
            refine ev_istore dX5_track_88 (by decide) ?_
            refine ev_ls [some (vR _), some (vI _), some (vI _), some (vI _), some (vI _), some (vI _), some (vI _), some (vI _), some (vI _), some (vI _), none] rfl ?_
            refine ev_iload dX5_track_90 rfl ?_
            refine ev_if_eq 105 dX5_track_92 (by omega) (fun c92 => ?_) (fun c92 => ?_)
            · refine ev_iconst dX5_track_105 ?_
              exact em_iret dX5_track_106 ⟨by unfold fTrack; rw [cif_neg (by omega)], Or.inl ⟨by omega, rfl⟩⟩
            · refine ev_iload dX5_track_95 rfl ?_
              refine ev_if_eq 105 dX5_track_97 (by omega) (fun c97 => ?_) (fun c97 => ?_)
              · refine ev_iconst dX5_track_105 ?_
                exact em_iret dX5_track_106 ⟨by unfold fTrack; rw [cif_neg (by omega)], Or.inl ⟨by omega, rfl⟩⟩
              · refine ev_iload dX5_track_100 rfl ?_
                refine ev_if_eq 107 dX5_track_102 (by omega) (fun c102 => ?_) (fun c102 => ?_)
                · exfalso; omega
                · refine ev_iconst dX5_track_105 ?_
                  exact em_iret dX5_track_106 ⟨by unfold fTrack; rw [cif_neg (by omega)], Or.inl ⟨by omega, rfl⟩⟩
          · refine ev_iload_n dX5_track_77 rfl ?_
            refine ev_iload dX5_track_78 rfl ?_
            refine ev_icmp_ne 87 dX5_track_80 (by omega) (by omega) (fun c80 => ?_) (fun c80 => ?_)
            · refine ev_iconst dX5_track_87 ?_
              refine ev_istore dX5_track_88 (by decide) ?_
              refine ev_ls [some (vR _), some (vI _), some (vI _), some (vI _), some (vI _), some (vI _), some (vI _), some (vI _), some (vI _), some (vI _), none] rfl ?_
              refine ev_iload dX5_track_90 rfl ?_
              refine ev_if_eq 105 dX5_track_92 (by omega) (fun c92 => ?_) (fun c92 => ?_)
              · refine ev_iconst dX5_track_105 ?_
                exact em_iret dX5_track_106 ⟨by unfold fTrack; rw [cif_neg (by omega)], Or.inl ⟨by omega, rfl⟩⟩
              · refine ev_iload dX5_track_95 rfl ?_
                refine ev_if_eq 105 dX5_track_97 (by omega) (fun c97 => ?_) (fun c97 => ?_)
                · refine ev_iconst dX5_track_105 ?_
                  exact em_iret dX5_track_106 ⟨by unfold fTrack; rw [cif_neg (by omega)], Or.inl ⟨by omega, rfl⟩⟩
                · refine ev_iload dX5_track_100 rfl ?_
                  refine ev_if_eq 107 dX5_track_102 (by omega) (fun c102 => ?_) (fun c102 => ?_)
                  · exfalso; omega
                  · refine ev_iconst dX5_track_105 ?_
                    exact em_iret dX5_track_106 ⟨by unfold fTrack; rw [cif_neg (by omega)], Or.inl ⟨by omega, rfl⟩⟩
            · refine ev_iconst dX5_track_83 ?_
              refine ev_goto 88 dX5_track_84 ?_
              refine ev_istore dX5_track_88 (by decide) ?_
              refine ev_ls [some (vR _), some (vI _), some (vI _), some (vI _), some (vI _), some (vI _), some (vI _), some (vI _), some (vI _), some (vI _), none] rfl ?_
              refine ev_iload dX5_track_90 rfl ?_
              refine ev_if_eq 105 dX5_track_92 (by omega) (fun c92 => ?_) (fun c92 => ?_)
              · refine ev_iconst dX5_track_105 ?_
                exact em_iret dX5_track_106 ⟨by unfold fTrack; rw [cif_neg (by omega)], Or.inl ⟨by omega, rfl⟩⟩
              · refine ev_iload dX5_track_95 rfl ?_
                refine ev_if_eq 105 dX5_track_97 (by omega) (fun c97 => ?_) (fun c97 => ?_)
                · refine ev_iconst dX5_track_105 ?_
                  exact em_iret dX5_track_106 ⟨by unfold fTrack; rw [cif_neg (by omega)], Or.inl ⟨by omega, rfl⟩⟩
                · refine ev_iload dX5_track_100 rfl ?_
                  refine ev_if_eq 107 dX5_track_102 (by omega) (fun c102 => ?_) (fun c102 => ?_)
                  · exfalso; omega
                  · refine ev_iconst dX5_track_105 ?_
                    exact em_iret dX5_track_106 ⟨by unfold fTrack; rw [cif_neg (by omega)], Or.inl ⟨by omega, rfl⟩⟩
  · refine ev_iload_n dX5_track_7 rfl ?_
    refine em_S1 (c_isOnMap l _ (by omega)) mX5_52 dX5_track_8 ?_
    rintro r M ⟨rfl, z8, rfl, h8⟩
    refine ev_if_eq 33 dX5_track_11 (by omega) (fun c11 => ?_) (fun c11 => ?_)
    · refine ev_iconst dX5_track_33 ?_
      refine ev_istore dX5_track_34 (by decide) ?_
      refine ev_ls [some (vR _), some (vI _), some (vI _), some (vI _), some (vI _), some (vI _), some (vI _), some (vI _), none, none, none] rfl ?_
      refine ev_iload dX5_track_36 rfl ?_
      refine ev_iconst dX5_track_38 ?_
      refine ev_ldc (1000000) kX5_56 dX5_track_39 (by decide) ?_
      refine em_S3 (c_isWithin l _ (by omega) (by omega) (by omega)) mX5_57 dX5_track_41 ?_
      rintro r M ⟨rfl, z41, rfl, h41⟩
      refine ev_if_eq 69 dX5_track_44 (by omega) (fun c44 => ?_) (fun c44 => ?_)
      · refine ev_iconst dX5_track_69 ?_
        refine ev_istore dX5_track_70 (by decide) ?_
        refine ev_ls [some (vR _), some (vI _), some (vI _), some (vI _), some (vI _), some (vI _), some (vI _), some (vI _), some (vI _), none, none] rfl ?_
        refine ev_iload_n dX5_track_72 rfl ?_
        refine ev_iload_n dX5_track_73 rfl ?_
        refine ev_icmp_ne 87 dX5_track_74 (by omega) (by omega) (fun c74 => ?_) (fun c74 => ?_)
        · refine ev_iconst dX5_track_87 ?_
          refine ev_istore dX5_track_88 (by decide) ?_
          refine ev_ls [some (vR _), some (vI _), some (vI _), some (vI _), some (vI _), some (vI _), some (vI _), some (vI _), some (vI _), some (vI _), none] rfl ?_
          refine ev_iload dX5_track_90 rfl ?_
          refine ev_if_eq 105 dX5_track_92 (by omega) (fun c92 => ?_) (fun c92 => ?_)
          · refine ev_iconst dX5_track_105 ?_
            exact em_iret dX5_track_106 ⟨by unfold fTrack; rw [cif_neg (by omega)], Or.inl ⟨by omega, rfl⟩⟩
          · refine ev_iload dX5_track_95 rfl ?_
            refine ev_if_eq 105 dX5_track_97 (by omega) (fun c97 => ?_) (fun c97 => ?_)
            · refine ev_iconst dX5_track_105 ?_
              exact em_iret dX5_track_106 ⟨by unfold fTrack; rw [cif_neg (by omega)], Or.inl ⟨by omega, rfl⟩⟩
            · refine ev_iload dX5_track_100 rfl ?_
              refine ev_if_eq 107 dX5_track_102 (by omega) (fun c102 => ?_) (fun c102 => ?_)
              · exfalso; omega
              · refine ev_iconst dX5_track_105 ?_
                exact em_iret dX5_track_106 ⟨by unfold fTrack; rw [cif_neg (by omega)], Or.inl ⟨by omega, rfl⟩⟩
        · refine ev_iload_n dX5_track_77 rfl ?_
          refine ev_iload dX5_track_78 rfl ?_
          refine ev_icmp_ne 87 dX5_track_80 (by omega) (by omega) (fun c80 => ?_) (fun c80 => ?_)
          · refine ev_iconst dX5_track_87 ?_
            refine ev_istore dX5_track_88 (by decide) ?_
            refine ev_ls [some (vR _), some (vI _), some (vI _), some (vI _), some (vI _), some (vI _), some (vI _), some (vI _), some (vI _), some (vI _), none] rfl ?_
            refine ev_iload dX5_track_90 rfl ?_
            refine ev_if_eq 105 dX5_track_92 (by omega) (fun c92 => ?_) (fun c92 => ?_)
            · refine ev_iconst dX5_track_105 ?_
              exact em_iret dX5_track_106 ⟨by unfold fTrack; rw [cif_neg (by omega)], Or.inl ⟨by omega, rfl⟩⟩
            · refine ev_iload dX5_track_95 rfl ?_
              refine ev_if_eq 105 dX5_track_97 (by omega) (fun c97 => ?_) (fun c97 => ?_)
              · refine ev_iconst dX5_track_105 ?_
                exact em_iret dX5_track_106 ⟨by unfold fTrack; rw [cif_neg (by omega)], Or.inl ⟨by omega, rfl⟩⟩
              · refine ev_iload dX5_track_100 rfl ?_
                refine ev_if_eq 107 dX5_track_102 (by omega) (fun c102 => ?_) (fun c102 => ?_)
                · exfalso; omega
                · refine ev_iconst dX5_track_105 ?_
                  exact em_iret dX5_track_106 ⟨by unfold fTrack; rw [cif_neg (by omega)], Or.inl ⟨by omega, rfl⟩⟩
          · refine ev_iconst dX5_track_83 ?_
            refine ev_goto 88 dX5_track_84 ?_
            refine ev_istore dX5_track_88 (by decide) ?_
            refine ev_ls [some (vR _), some (vI _), some (vI _), some (vI _), some (vI _), some (vI _), some (vI _), some (vI _), some (vI _), some (vI _), none] rfl ?_
            refine ev_iload dX5_track_90 rfl ?_
            refine ev_if_eq 105 dX5_track_92 (by omega) (fun c92 => ?_) (fun c92 => ?_)
            · refine ev_iconst dX5_track_105 ?_
              exact em_iret dX5_track_106 ⟨by unfold fTrack; rw [cif_neg (by omega)], Or.inl ⟨by omega, rfl⟩⟩
            · refine ev_iload dX5_track_95 rfl ?_
              refine ev_if_eq 105 dX5_track_97 (by omega) (fun c97 => ?_) (fun c97 => ?_)
              · refine ev_iconst dX5_track_105 ?_
                exact em_iret dX5_track_106 ⟨by unfold fTrack; rw [cif_neg (by omega)], Or.inl ⟨by omega, rfl⟩⟩
              · refine ev_iload dX5_track_100 rfl ?_
                refine ev_if_eq 107 dX5_track_102 (by omega) (fun c102 => ?_) (fun c102 => ?_)
                · exfalso; omega
                · refine ev_iconst dX5_track_105 ?_
                  exact em_iret dX5_track_106 ⟨by unfold fTrack; rw [cif_neg (by omega)], Or.inl ⟨by omega, rfl⟩⟩
      · refine ev_iload dX5_track_47 rfl ?_
        refine ev_iconst dX5_track_49 ?_
        refine ev_ldc (1000000) kX5_56 dX5_track_50 (by decide) ?_
        refine em_S3 (c_isWithin l _ (by omega) (by omega) (by omega)) mX5_57 dX5_track_52 ?_
        rintro r M ⟨rfl, z52, rfl, h52⟩
        refine ev_if_eq 69 dX5_track_55 (by omega) (fun c55 => ?_) (fun c55 => ?_)
        · refine ev_iconst dX5_track_69 ?_
          refine ev_istore dX5_track_70 (by decide) ?_
          refine ev_ls [some (vR _), some (vI _), some (vI _), some (vI _), some (vI _), some (vI _), some (vI _), some (vI _), some (vI _), none, none] rfl ?_
          refine ev_iload_n dX5_track_72 rfl ?_
          refine ev_iload_n dX5_track_73 rfl ?_
          refine ev_icmp_ne 87 dX5_track_74 (by omega) (by omega) (fun c74 => ?_) (fun c74 => ?_)
          · refine ev_iconst dX5_track_87 ?_
            refine ev_istore dX5_track_88 (by decide) ?_
            refine ev_ls [some (vR _), some (vI _), some (vI _), some (vI _), some (vI _), some (vI _), some (vI _), some (vI _), some (vI _), some (vI _), none] rfl ?_
            refine ev_iload dX5_track_90 rfl ?_
            refine ev_if_eq 105 dX5_track_92 (by omega) (fun c92 => ?_) (fun c92 => ?_)
            · refine ev_iconst dX5_track_105 ?_
              exact em_iret dX5_track_106 ⟨by unfold fTrack; rw [cif_neg (by omega)], Or.inl ⟨by omega, rfl⟩⟩
            · refine ev_iload dX5_track_95 rfl ?_
              refine ev_if_eq 105 dX5_track_97 (by omega) (fun c97 => ?_) (fun c97 => ?_)
              · refine ev_iconst dX5_track_105 ?_
                exact em_iret dX5_track_106 ⟨by unfold fTrack; rw [cif_neg (by omega)], Or.inl ⟨by omega, rfl⟩⟩
              · refine ev_iload dX5_track_100 rfl ?_
                refine ev_if_eq 107 dX5_track_102 (by omega) (fun c102 => ?_) (fun c102 => ?_)
                · exfalso; omega
                · refine ev_iconst dX5_track_105 ?_
                  exact em_iret dX5_track_106 ⟨by unfold fTrack; rw [cif_neg (by omega)], Or.inl ⟨by omega, rfl⟩⟩
          · refine ev_iload_n dX5_track_77 rfl ?_
            refine ev_iload dX5_track_78 rfl ?_
            refine ev_icmp_ne 87 dX5_track_80 (by omega) (by omega) (fun c80 => ?_) (fun c80 => ?_)
            · refine ev_iconst dX5_track_87 ?_
              refine ev_istore dX5_track_88 (by decide) ?_
              refine ev_ls [some (vR _), some (vI _), some (vI _), some (vI _), some (vI _), some (vI _), some (vI _), some (vI _), some (vI _), some (vI _), none] rfl ?_
              refine ev_iload dX5_track_90 rfl ?_
              refine ev_if_eq 105 dX5_track_92 (by omega) (fun c92 => ?_) (fun c92 => ?_)
              · refine ev_iconst dX5_track_105 ?_
                exact em_iret dX5_track_106 ⟨by unfold fTrack; rw [cif_neg (by omega)], Or.inl ⟨by omega, rfl⟩⟩
              · refine ev_iload dX5_track_95 rfl ?_
                refine ev_if_eq 105 dX5_track_97 (by omega) (fun c97 => ?_) (fun c97 => ?_)
                · refine ev_iconst dX5_track_105 ?_
                  exact em_iret dX5_track_106 ⟨by unfold fTrack; rw [cif_neg (by omega)], Or.inl ⟨by omega, rfl⟩⟩
                · refine ev_iload dX5_track_100 rfl ?_
                  refine ev_if_eq 107 dX5_track_102 (by omega) (fun c102 => ?_) (fun c102 => ?_)
                  · exfalso; omega
                  · refine ev_iconst dX5_track_105 ?_
                    exact em_iret dX5_track_106 ⟨by unfold fTrack; rw [cif_neg (by omega)], Or.inl ⟨by omega, rfl⟩⟩
            · refine ev_iconst dX5_track_83 ?_
              refine ev_goto 88 dX5_track_84 ?_
              refine ev_istore dX5_track_88 (by decide) ?_
              refine ev_ls [some (vR _), some (vI _), some (vI _), some (vI _), some (vI _), some (vI _), some (vI _), some (vI _), some (vI _), some (vI _), none] rfl ?_
              refine ev_iload dX5_track_90 rfl ?_
              refine ev_if_eq 105 dX5_track_92 (by omega) (fun c92 => ?_) (fun c92 => ?_)
              · refine ev_iconst dX5_track_105 ?_
                exact em_iret dX5_track_106 ⟨by unfold fTrack; rw [cif_neg (by omega)], Or.inl ⟨by omega, rfl⟩⟩
              · refine ev_iload dX5_track_95 rfl ?_
                refine ev_if_eq 105 dX5_track_97 (by omega) (fun c97 => ?_) (fun c97 => ?_)
                · refine ev_iconst dX5_track_105 ?_
                  exact em_iret dX5_track_106 ⟨by unfold fTrack; rw [cif_neg (by omega)], Or.inl ⟨by omega, rfl⟩⟩
                · refine ev_iload dX5_track_100 rfl ?_
                  refine ev_if_eq 107 dX5_track_102 (by omega) (fun c102 => ?_) (fun c102 => ?_)
                  · exfalso; omega
                  · refine ev_iconst dX5_track_105 ?_
                    exact em_iret dX5_track_106 ⟨by unfold fTrack; rw [cif_neg (by omega)], Or.inl ⟨by omega, rfl⟩⟩
        · refine ev_iload dX5_track_58 rfl ?_
          refine ev_iload dX5_track_60 rfl ?_
          refine ev_icmp_ge 69 dX5_track_62 (by omega) (by omega) (fun c62 => ?_) (fun c62 => ?_)
          · refine ev_iconst dX5_track_69 ?_
            refine ev_istore dX5_track_70 (by decide) ?_
            refine ev_ls [some (vR _), some (vI _), some (vI _), some (vI _), some (vI _), some (vI _), some (vI _), some (vI _), some (vI _), none, none] rfl ?_
            refine ev_iload_n dX5_track_72 rfl ?_
            refine ev_iload_n dX5_track_73 rfl ?_
            refine ev_icmp_ne 87 dX5_track_74 (by omega) (by omega) (fun c74 => ?_) (fun c74 => ?_)
            · refine ev_iconst dX5_track_87 ?_
              refine ev_istore dX5_track_88 (by decide) ?_
              refine ev_ls [some (vR _), some (vI _), some (vI _), some (vI _), some (vI _), some (vI _), some (vI _), some (vI _), some (vI _), some (vI _), none] rfl ?_
              refine ev_iload dX5_track_90 rfl ?_
              refine ev_if_eq 105 dX5_track_92 (by omega) (fun c92 => ?_) (fun c92 => ?_)
              · refine ev_iconst dX5_track_105 ?_
                exact em_iret dX5_track_106 ⟨by unfold fTrack; rw [cif_neg (by omega)], Or.inl ⟨by omega, rfl⟩⟩
              · refine ev_iload dX5_track_95 rfl ?_
                refine ev_if_eq 105 dX5_track_97 (by omega) (fun c97 => ?_) (fun c97 => ?_)
                · refine ev_iconst dX5_track_105 ?_
                  exact em_iret dX5_track_106 ⟨by unfold fTrack; rw [cif_neg (by omega)], Or.inl ⟨by omega, rfl⟩⟩
                · refine ev_iload dX5_track_100 rfl ?_
                  refine ev_if_eq 107 dX5_track_102 (by omega) (fun c102 => ?_) (fun c102 => ?_)
                  · exfalso; omega
                  · refine ev_iconst dX5_track_105 ?_
                    exact em_iret dX5_track_106 ⟨by unfold fTrack; rw [cif_neg (by omega)], Or.inl ⟨by omega, rfl⟩⟩
            · refine ev_iload_n dX5_track_77 rfl ?_
              refine ev_iload dX5_track_78 rfl ?_
              refine ev_icmp_ne 87 dX5_track_80 (by omega) (by omega) (fun c80 => ?_) (fun c80 => ?_)
              · refine ev_iconst dX5_track_87 ?_
                refine ev_istore dX5_track_88 (by decide) ?_
                refine ev_ls [some (vR _), some (vI _), some (vI _), some (vI _), some (vI _), some (vI _), some (vI _), some (vI _), some (vI _), some (vI _), none] rfl ?_
                refine ev_iload dX5_track_90 rfl ?_
                refine ev_if_eq 105 dX5_track_92 (by omega) (fun c92 => ?_) (fun c92 => ?_)
                · refine ev_iconst dX5_track_105 ?_
                  exact em_iret dX5_track_106 ⟨by unfold fTrack; rw [cif_neg (by omega)], Or.inl ⟨by omega, rfl⟩⟩
                · refine ev_iload dX5_track_95 rfl ?_
                  refine ev_if_eq 105 dX5_track_97 (by omega) (fun c97 => ?_) (fun c97 => ?_)
                  · refine ev_iconst dX5_track_105 ?_
                    exact em_iret dX5_track_106 ⟨by unfold fTrack; rw [cif_neg (by omega)], Or.inl ⟨by omega, rfl⟩⟩
                  · refine ev_iload dX5_track_100 rfl ?_
                    refine ev_if_eq 107 dX5_track_102 (by omega) (fun c102 => ?_) (fun c102 => ?_)
                    · exfalso; omega
                    · refine ev_iconst dX5_track_105 ?_
                      exact em_iret dX5_track_106 ⟨by unfold fTrack; rw [cif_neg (by omega)], Or.inl ⟨by omega, rfl⟩⟩
              · refine ev_iconst dX5_track_83 ?_
                refine ev_goto 88 dX5_track_84 ?_
                refine ev_istore dX5_track_88 (by decide) ?_
                refine ev_ls [some (vR _), some (vI _), some (vI _), some (vI _), some (vI _), some (vI _), some (vI _), some (vI _), some (vI _), some (vI _), none] rfl ?_
                refine ev_iload dX5_track_90 rfl ?_
                refine ev_if_eq 105 dX5_track_92 (by omega) (fun c92 => ?_) (fun c92 => ?_)
                · refine ev_iconst dX5_track_105 ?_
                  exact em_iret dX5_track_106 ⟨by unfold fTrack; rw [cif_neg (by omega)], Or.inl ⟨by omega, rfl⟩⟩
                · refine ev_iload dX5_track_95 rfl ?_
                  refine ev_if_eq 105 dX5_track_97 (by omega) (fun c97 => ?_) (fun c97 => ?_)
                  · refine ev_iconst dX5_track_105 ?_
                    exact em_iret dX5_track_106 ⟨by unfold fTrack; rw [cif_neg (by omega)], Or.inl ⟨by omega, rfl⟩⟩
                  · refine ev_iload dX5_track_100 rfl ?_
                    refine ev_if_eq 107 dX5_track_102 (by omega) (fun c102 => ?_) (fun c102 => ?_)
                    · exfalso; omega
                    · refine ev_iconst dX5_track_105 ?_
                      exact em_iret dX5_track_106 ⟨by unfold fTrack; rw [cif_neg (by omega)], Or.inl ⟨by omega, rfl⟩⟩
          · refine ev_iconst dX5_track_65 ?_
            refine ev_goto 70 dX5_track_66 ?_
            refine ev_istore dX5_track_70 (by decide) ?_
            refine ev_ls [some (vR _), some (vI _), some (vI _), some (vI _), some (vI _), some (vI _), some (vI _), some (vI _), some (vI _), none, none] rfl ?_
            refine ev_iload_n dX5_track_72 rfl ?_
            refine ev_iload_n dX5_track_73 rfl ?_
            refine ev_icmp_ne 87 dX5_track_74 (by omega) (by omega) (fun c74 => ?_) (fun c74 => ?_)
            · refine ev_iconst dX5_track_87 ?_
              refine ev_istore dX5_track_88 (by decide) ?_
              refine ev_ls [some (vR _), some (vI _), some (vI _), some (vI _), some (vI _), some (vI _), some (vI _), some (vI _), some (vI _), some (vI _), none] rfl ?_
              refine ev_iload dX5_track_90 rfl ?_
              refine ev_if_eq 105 dX5_track_92 (by omega) (fun c92 => ?_) (fun c92 => ?_)
              · refine ev_iconst dX5_track_105 ?_
                exact em_iret dX5_track_106 ⟨by unfold fTrack; rw [cif_neg (by omega)], Or.inl ⟨by omega, rfl⟩⟩
              · refine ev_iload dX5_track_95 rfl ?_
                refine ev_if_eq 105 dX5_track_97 (by omega) (fun c97 => ?_) (fun c97 => ?_)
                · refine ev_iconst dX5_track_105 ?_
                  exact em_iret dX5_track_106 ⟨by unfold fTrack; rw [cif_neg (by omega)], Or.inl ⟨by omega, rfl⟩⟩
                · refine ev_iload dX5_track_100 rfl ?_
                  refine ev_if_eq 107 dX5_track_102 (by omega) (fun c102 => ?_) (fun c102 => ?_)
                  · exfalso; omega
                  · refine ev_iconst dX5_track_105 ?_
                    exact em_iret dX5_track_106 ⟨by unfold fTrack; rw [cif_neg (by omega)], Or.inl ⟨by omega, rfl⟩⟩
            · refine ev_iload_n dX5_track_77 rfl ?_
              refine ev_iload dX5_track_78 rfl ?_
              refine ev_icmp_ne 87 dX5_track_80 (by omega) (by omega) (fun c80 => ?_) (fun c80 => ?_)
              · refine ev_iconst dX5_track_87 ?_
                refine ev_istore dX5_track_88 (by decide) ?_
                refine ev_ls [some (vR _), some (vI _), some (vI _), some (vI _), some (vI _), some (vI _), some (vI _), some (vI _), some (vI _), some (vI _), none] rfl ?_
                refine ev_iload dX5_track_90 rfl ?_
                refine ev_if_eq 105 dX5_track_92 (by omega) (fun c92 => ?_) (fun c92 => ?_)
                · refine ev_iconst dX5_track_105 ?_
                  exact em_iret dX5_track_106 ⟨by unfold fTrack; rw [cif_neg (by omega)], Or.inl ⟨by omega, rfl⟩⟩
                · refine ev_iload dX5_track_95 rfl ?_
                  refine ev_if_eq 105 dX5_track_97 (by omega) (fun c97 => ?_) (fun c97 => ?_)
                  · refine ev_iconst dX5_track_105 ?_
                    exact em_iret dX5_track_106 ⟨by unfold fTrack; rw [cif_neg (by omega)], Or.inl ⟨by omega, rfl⟩⟩
                  · refine ev_iload dX5_track_100 rfl ?_
                    refine ev_if_eq 107 dX5_track_102 (by omega) (fun c102 => ?_) (fun c102 => ?_)
                    · exfalso; omega
                    · refine ev_iconst dX5_track_105 ?_
                      exact em_iret dX5_track_106 ⟨by unfold fTrack; rw [cif_neg (by omega)], Or.inl ⟨by omega, rfl⟩⟩
              · refine ev_iconst dX5_track_83 ?_
                refine ev_goto 88 dX5_track_84 ?_
                refine ev_istore dX5_track_88 (by decide) ?_
                refine ev_ls [some (vR _), some (vI _), some (vI _), some (vI _), some (vI _), some (vI _), some (vI _), some (vI _), some (vI _), some (vI _), none] rfl ?_
                refine ev_iload dX5_track_90 rfl ?_
                refine ev_if_eq 105 dX5_track_92 (by omega) (fun c92 => ?_) (fun c92 => ?_)
                · refine ev_iconst dX5_track_105 ?_
                  exact em_iret dX5_track_106 ⟨by unfold fTrack; rw [cif_neg (by omega)], Or.inl ⟨by omega, rfl⟩⟩
                · refine ev_iload dX5_track_95 rfl ?_
                  refine ev_if_eq 105 dX5_track_97 (by omega) (fun c97 => ?_) (fun c97 => ?_)
                  · refine ev_iconst dX5_track_105 ?_
                    exact em_iret dX5_track_106 ⟨by unfold fTrack; rw [cif_neg (by omega)], Or.inl ⟨by omega, rfl⟩⟩
                  · refine ev_iload dX5_track_100 rfl ?_
                    refine ev_if_eq 107 dX5_track_102 (by omega) (fun c102 => ?_) (fun c102 => ?_)
                    · exfalso; omega
                    · refine ev_iconst dX5_track_105 ?_
                      exact em_iret dX5_track_106 ⟨by unfold fTrack; rw [cif_neg (by omega)], Or.inl ⟨by omega, rfl⟩⟩
    · refine ev_iload_n dX5_track_14 rfl ?_
      refine em_S1 (c_isOnMap l _ (by omega)) mX5_52 dX5_track_15 ?_
      rintro r M ⟨rfl, z15, rfl, h15⟩
      refine ev_if_eq 33 dX5_track_18 (by omega) (fun c18 => ?_) (fun c18 => ?_)
      · refine ev_iconst dX5_track_33 ?_
        refine ev_istore dX5_track_34 (by decide) ?_
        refine ev_ls [some (vR _), some (vI _), some (vI _), some (vI _), some (vI _), some (vI _), some (vI _), some (vI _), none, none, none] rfl ?_
        refine ev_iload dX5_track_36 rfl ?_
        refine ev_iconst dX5_track_38 ?_
        refine ev_ldc (1000000) kX5_56 dX5_track_39 (by decide) ?_
        refine em_S3 (c_isWithin l _ (by omega) (by omega) (by omega)) mX5_57 dX5_track_41 ?_
        rintro r M ⟨rfl, z41, rfl, h41⟩
        refine ev_if_eq 69 dX5_track_44 (by omega) (fun c44 => ?_) (fun c44 => ?_)
        · refine ev_iconst dX5_track_69 ?_
          refine ev_istore dX5_track_70 (by decide) ?_
          refine ev_ls [some (vR _), some (vI _), some (vI _), some (vI _), some (vI _), some (vI _), some (vI _), some (vI _), some (vI _), none, none] rfl ?_
          refine ev_iload_n dX5_track_72 rfl ?_
          refine ev_iload_n dX5_track_73 rfl ?_
          refine ev_icmp_ne 87 dX5_track_74 (by omega) (by omega) (fun c74 => ?_) (fun c74 => ?_)
          · refine ev_iconst dX5_track_87 ?_
            refine ev_istore dX5_track_88 (by decide) ?_
            refine ev_ls [some (vR _), some (vI _), some (vI _), some (vI _), some (vI _), some (vI _), some (vI _), some (vI _), some (vI _), some (vI _), none] rfl ?_
            refine ev_iload dX5_track_90 rfl ?_
            refine ev_if_eq 105 dX5_track_92 (by omega) (fun c92 => ?_) (fun c92 => ?_)
            · refine ev_iconst dX5_track_105 ?_
              exact em_iret dX5_track_106 ⟨by unfold fTrack; rw [cif_neg (by omega)], Or.inl ⟨by omega, rfl⟩⟩
            · refine ev_iload dX5_track_95 rfl ?_
              refine ev_if_eq 105 dX5_track_97 (by omega) (fun c97 => ?_) (fun c97 => ?_)
              · refine ev_iconst dX5_track_105 ?_
                exact em_iret dX5_track_106 ⟨by unfold fTrack; rw [cif_neg (by omega)], Or.inl ⟨by omega, rfl⟩⟩
              · refine ev_iload dX5_track_100 rfl ?_
                refine ev_if_eq 107 dX5_track_102 (by omega) (fun c102 => ?_) (fun c102 => ?_)
                · exfalso; omega
                · refine ev_iconst dX5_track_105 ?_
                  exact em_iret dX5_track_106 ⟨by unfold fTrack; rw [cif_neg (by omega)], Or.inl ⟨by omega, rfl⟩⟩
          · refine ev_iload_n dX5_track_77 rfl ?_
            refine ev_iload dX5_track_78 rfl ?_
            refine ev_icmp_ne 87 dX5_track_80 (by omega) (by omega) (fun c80 => ?_) (fun c80 => ?_)
            · refine ev_iconst dX5_track_87 ?_
              refine ev_istore dX5_track_88 (by decide) ?_
              refine ev_ls [some (vR _), some (vI _), some (vI _), some (vI _), some (vI _), some (vI _), some (vI _), some (vI _), some (vI _), some (vI _), none] rfl ?_
              refine ev_iload dX5_track_90 rfl ?_
              refine ev_if_eq 105 dX5_track_92 (by omega) (fun c92 => ?_) (fun c92 => ?_)
              · refine ev_iconst dX5_track_105 ?_
                exact em_iret dX5_track_106 ⟨by unfold fTrack; rw [cif_neg (by omega)], Or.inl ⟨by omega, rfl⟩⟩
              · refine ev_iload dX5_track_95 rfl ?_
                refine ev_if_eq 105 dX5_track_97 (by omega) (fun c97 => ?_) (fun c97 => ?_)
                · refine ev_iconst dX5_track_105 ?_
                  exact em_iret dX5_track_106 ⟨by unfold fTrack; rw [cif_neg (by omega)], Or.inl ⟨by omega, rfl⟩⟩
                · refine ev_iload dX5_track_100 rfl ?_
                  refine ev_if_eq 107 dX5_track_102 (by omega) (fun c102 => ?_) (fun c102 => ?_)
                  · exfalso; omega
                  · refine ev_iconst dX5_track_105 ?_
                    exact em_iret dX5_track_106 ⟨by unfold fTrack; rw [cif_neg (by omega)], Or.inl ⟨by omega, rfl⟩⟩
            · refine ev_iconst dX5_track_83 ?_
              refine ev_goto 88 dX5_track_84 ?_
              refine ev_istore dX5_track_88 (by decide) ?_
              refine ev_ls [some (vR _), some (vI _), some (vI _), some (vI _), some (vI _), some (vI _), some (vI _), some (vI _), some (vI _), some (vI _), none] rfl ?_
              refine ev_iload dX5_track_90 rfl ?_
              refine ev_if_eq 105 dX5_track_92 (by omega) (fun c92 => ?_) (fun c92 => ?_)
              · refine ev_iconst dX5_track_105 ?_
                exact em_iret dX5_track_106 ⟨by unfold fTrack; rw [cif_neg (by omega)], Or.inl ⟨by omega, rfl⟩⟩
              · refine ev_iload dX5_track_95 rfl ?_
                refine ev_if_eq 105 dX5_track_97 (by omega) (fun c97 => ?_) (fun c97 => ?_)
                · refine ev_iconst dX5_track_105 ?_
                  exact em_iret dX5_track_106 ⟨by unfold fTrack; rw [cif_neg (by omega)], Or.inl ⟨by omega, rfl⟩⟩
                · refine ev_iload dX5_track_100 rfl ?_
                  refine ev_if_eq 107 dX5_track_102 (by omega) (fun c102 => ?_) (fun c102 => ?_)
                  · exfalso; omega
                  · refine ev_iconst dX5_track_105 ?_
                    exact em_iret dX5_track_106 ⟨by unfold fTrack; rw [cif_neg (by omega)], Or.inl ⟨by omega, rfl⟩⟩
        · refine ev_iload dX5_track_47 rfl ?_
          refine ev_iconst dX5_track_49 ?_
          refine ev_ldc (1000000) kX5_56 dX5_track_50 (by decide) ?_
          refine em_S3 (c_isWithin l _ (by omega) (by omega) (by omega)) mX5_57 dX5_track_52 ?_
          rintro r M ⟨rfl, z52, rfl, h52⟩
          refine ev_if_eq 69 dX5_track_55 (by omega) (fun c55 => ?_) (fun c55 => ?_)
          · refine ev_iconst dX5_track_69 ?_
            refine ev_istore dX5_track_70 (by decide) ?_
            refine ev_ls [some (vR _), some (vI _), some (vI _), some (vI _), some (vI _), some (vI _), some (vI _), some (vI _), some (vI _), none, none] rfl ?_
            refine ev_iload_n dX5_track_72 rfl ?_
            refine ev_iload_n dX5_track_73 rfl ?_
            refine ev_icmp_ne 87 dX5_track_74 (by omega) (by omega) (fun c74 => ?_) (fun c74 => ?_)
            · refine ev_iconst dX5_track_87 ?_
              refine ev_istore dX5_track_88 (by decide) ?_
              refine ev_ls [some (vR _), some (vI _), some (vI _), some (vI _), some (vI _), some (vI _), some (vI _), some (vI _), some (vI _), some (vI _), none] rfl ?_
              refine ev_iload dX5_track_90 rfl ?_
              refine ev_if_eq 105 dX5_track_92 (by omega) (fun c92 => ?_) (fun c92 => ?_)
              · refine ev_iconst dX5_track_105 ?_
                exact em_iret dX5_track_106 ⟨by unfold fTrack; rw [cif_neg (by omega)], Or.inl ⟨by omega, rfl⟩⟩
              · refine ev_iload dX5_track_95 rfl ?_
                refine ev_if_eq 105 dX5_track_97 (by omega) (fun c97 => ?_) (fun c97 => ?_)
                · refine ev_iconst dX5_track_105 ?_
                  exact em_iret dX5_track_106 ⟨by unfold fTrack; rw [cif_neg (by omega)], Or.inl ⟨by omega, rfl⟩⟩
                · refine ev_iload dX5_track_100 rfl ?_
                  refine ev_if_eq 107 dX5_track_102 (by omega) (fun c102 => ?_) (fun c102 => ?_)
                  · exfalso; omega
                  · refine ev_iconst dX5_track_105 ?_
                    exact em_iret dX5_track_106 ⟨by unfold fTrack; rw [cif_neg (by omega)], Or.inl ⟨by omega, rfl⟩⟩
            · refine ev_iload_n dX5_track_77 rfl ?_
              refine ev_iload dX5_track_78 rfl ?_
              refine ev_icmp_ne 87 dX5_track_80 (by omega) (by omega) (fun c80 => ?_) (fun c80 => ?_)
              · refine ev_iconst dX5_track_87 ?_
                refine ev_istore dX5_track_88 (by decide) ?_
                refine ev_ls [some (vR _), some (vI _), some (vI _), some (vI _), some (vI _), some (vI _), some (vI _), some (vI _), some (vI _), some (vI _), none] rfl ?_
                refine ev_iload dX5_track_90 rfl ?_
                refine ev_if_eq 105 dX5_track_92 (by omega) (fun c92 => ?_) (fun c92 => ?_)
                · refine ev_iconst dX5_track_105 ?_
                  exact em_iret dX5_track_106 ⟨by unfold fTrack; rw [cif_neg (by omega)], Or.inl ⟨by omega, rfl⟩⟩
                · refine ev_iload dX5_track_95 rfl ?_
                  refine ev_if_eq 105 dX5_track_97 (by omega) (fun c97 => ?_) (fun c97 => ?_)
                  · refine ev_iconst dX5_track_105 ?_
                    exact em_iret dX5_track_106 ⟨by unfold fTrack; rw [cif_neg (by omega)], Or.inl ⟨by omega, rfl⟩⟩
                  · refine ev_iload dX5_track_100 rfl ?_
                    refine ev_if_eq 107 dX5_track_102 (by omega) (fun c102 => ?_) (fun c102 => ?_)
                    · exfalso; omega
                    · refine ev_iconst dX5_track_105 ?_
                      exact em_iret dX5_track_106 ⟨by unfold fTrack; rw [cif_neg (by omega)], Or.inl ⟨by omega, rfl⟩⟩
              · refine ev_iconst dX5_track_83 ?_
                refine ev_goto 88 dX5_track_84 ?_
                refine ev_istore dX5_track_88 (by decide) ?_
                refine ev_ls [some (vR _), some (vI _), some (vI _), some (vI _), some (vI _), some (vI _), some (vI _), some (vI _), some (vI _), some (vI _), none] rfl ?_
                refine ev_iload dX5_track_90 rfl ?_
                refine ev_if_eq 105 dX5_track_92 (by omega) (fun c92 => ?_) (fun c92 => ?_)
                · refine ev_iconst dX5_track_105 ?_
                  exact em_iret dX5_track_106 ⟨by unfold fTrack; rw [cif_neg (by omega)], Or.inl ⟨by omega, rfl⟩⟩
                · refine ev_iload dX5_track_95 rfl ?_
                  refine ev_if_eq 105 dX5_track_97 (by omega) (fun c97 => ?_) (fun c97 => ?_)
                  · refine ev_iconst dX5_track_105 ?_
                    exact em_iret dX5_track_106 ⟨by unfold fTrack; rw [cif_neg (by omega)], Or.inl ⟨by omega, rfl⟩⟩
                  · refine ev_iload dX5_track_100 rfl ?_
                    refine ev_if_eq 107 dX5_track_102 (by omega) (fun c102 => ?_) (fun c102 => ?_)
                    · exfalso; omega
                    · refine ev_iconst dX5_track_105 ?_
                      exact em_iret dX5_track_106 ⟨by unfold fTrack; rw [cif_neg (by omega)], Or.inl ⟨by omega, rfl⟩⟩
          · refine ev_iload dX5_track_58 rfl ?_
            refine ev_iload dX5_track_60 rfl ?_
            refine ev_icmp_ge 69 dX5_track_62 (by omega) (by omega) (fun c62 => ?_) (fun c62 => ?_)
            · refine ev_iconst dX5_track_69 ?_
              refine ev_istore dX5_track_70 (by decide) ?_
              refine ev_ls [some (vR _), some (vI _), some (vI _), some (vI _), some (vI _), some (vI _), some (vI _), some (vI _), some (vI _), none, none] rfl ?_
              refine ev_iload_n dX5_track_72 rfl ?_
              refine ev_iload_n dX5_track_73 rfl ?_
              refine ev_icmp_ne 87 dX5_track_74 (by omega) (by omega) (fun c74 => ?_) (fun c74 => ?_)
              · refine ev_iconst dX5_track_87 ?_
                refine ev_istore dX5_track_88 (by decide) ?_
                refine ev_ls [some (vR _), some (vI _), some (vI _), some (vI _), some (vI _), some (vI _), some (vI _), some (vI _), some (vI _), some (vI _), none] rfl ?_
                refine ev_iload dX5_track_90 rfl ?_
                refine ev_if_eq 105 dX5_track_92 (by omega) (fun c92 => ?_) (fun c92 => ?_)
                · refine ev_iconst dX5_track_105 ?_
                  exact em_iret dX5_track_106 ⟨by unfold fTrack; rw [cif_neg (by omega)], Or.inl ⟨by omega, rfl⟩⟩
                · refine ev_iload dX5_track_95 rfl ?_
                  refine ev_if_eq 105 dX5_track_97 (by omega) (fun c97 => ?_) (fun c97 => ?_)
                  · refine ev_iconst dX5_track_105 ?_
                    exact em_iret dX5_track_106 ⟨by unfold fTrack; rw [cif_neg (by omega)], Or.inl ⟨by omega, rfl⟩⟩
                  · refine ev_iload dX5_track_100 rfl ?_
                    refine ev_if_eq 107 dX5_track_102 (by omega) (fun c102 => ?_) (fun c102 => ?_)
                    · exfalso; omega
                    · refine ev_iconst dX5_track_105 ?_
                      exact em_iret dX5_track_106 ⟨by unfold fTrack; rw [cif_neg (by omega)], Or.inl ⟨by omega, rfl⟩⟩
              · refine ev_iload_n dX5_track_77 rfl ?_
                refine ev_iload dX5_track_78 rfl ?_
                refine ev_icmp_ne 87 dX5_track_80 (by omega) (by omega) (fun c80 => ?_) (fun c80 => ?_)
                · refine ev_iconst dX5_track_87 ?_
                  refine ev_istore dX5_track_88 (by decide) ?_
                  refine ev_ls [some (vR _), some (vI _), some (vI _), some (vI _), some (vI _), some (vI _), some (vI _), some (vI _), some (vI _), some (vI _), none] rfl ?_
                  refine ev_iload dX5_track_90 rfl ?_
                  refine ev_if_eq 105 dX5_track_92 (by omega) (fun c92 => ?_) (fun c92 => ?_)
                  · refine ev_iconst dX5_track_105 ?_
                    exact em_iret dX5_track_106 ⟨by unfold fTrack; rw [cif_neg (by omega)], Or.inl ⟨by omega, rfl⟩⟩
                  · refine ev_iload dX5_track_95 rfl ?_
                    refine ev_if_eq 105 dX5_track_97 (by omega) (fun c97 => ?_) (fun c97 => ?_)
                    · refine ev_iconst dX5_track_105 ?_
                      exact em_iret dX5_track_106 ⟨by unfold fTrack; rw [cif_neg (by omega)], Or.inl ⟨by omega, rfl⟩⟩
                    · refine ev_iload dX5_track_100 rfl ?_
                      refine ev_if_eq 107 dX5_track_102 (by omega) (fun c102 => ?_) (fun c102 => ?_)
                      · exfalso; omega
                      · refine ev_iconst dX5_track_105 ?_
                        exact em_iret dX5_track_106 ⟨by unfold fTrack; rw [cif_neg (by omega)], Or.inl ⟨by omega, rfl⟩⟩
                · refine ev_iconst dX5_track_83 ?_
                  refine ev_goto 88 dX5_track_84 ?_
                  refine ev_istore dX5_track_88 (by decide) ?_
                  refine ev_ls [some (vR _), some (vI _), some (vI _), some (vI _), some (vI _), some (vI _), some (vI _), some (vI _), some (vI _), some (vI _), none] rfl ?_
                  refine ev_iload dX5_track_90 rfl ?_
                  refine ev_if_eq 105 dX5_track_92 (by omega) (fun c92 => ?_) (fun c92 => ?_)
                  · refine ev_iconst dX5_track_105 ?_
                    exact em_iret dX5_track_106 ⟨by unfold fTrack; rw [cif_neg (by omega)], Or.inl ⟨by omega, rfl⟩⟩
                  · refine ev_iload dX5_track_95 rfl ?_
                    refine ev_if_eq 105 dX5_track_97 (by omega) (fun c97 => ?_) (fun c97 => ?_)
                    · refine ev_iconst dX5_track_105 ?_
                      exact em_iret dX5_track_106 ⟨by unfold fTrack; rw [cif_neg (by omega)], Or.inl ⟨by omega, rfl⟩⟩
                    · refine ev_iload dX5_track_100 rfl ?_
                      refine ev_if_eq 107 dX5_track_102 (by omega) (fun c102 => ?_) (fun c102 => ?_)
                      · exfalso; omega
                      · refine ev_iconst dX5_track_105 ?_
                        exact em_iret dX5_track_106 ⟨by unfold fTrack; rw [cif_neg (by omega)], Or.inl ⟨by omega, rfl⟩⟩
            · refine ev_iconst dX5_track_65 ?_
              refine ev_goto 70 dX5_track_66 ?_
              refine ev_istore dX5_track_70 (by decide) ?_
              refine ev_ls [some (vR _), some (vI _), some (vI _), some (vI _), some (vI _), some (vI _), some (vI _), some (vI _), some (vI _), none, none] rfl ?_
              refine ev_iload_n dX5_track_72 rfl ?_
              refine ev_iload_n dX5_track_73 rfl ?_
              refine ev_icmp_ne 87 dX5_track_74 (by omega) (by omega) (fun c74 => ?_) (fun c74 => ?_)
              · refine ev_iconst dX5_track_87 ?_
                refine ev_istore dX5_track_88 (by decide) ?_
                refine ev_ls [some (vR _), some (vI _), some (vI _), some (vI _), some (vI _), some (vI _), some (vI _), some (vI _), some (vI _), some (vI _), none] rfl ?_
                refine ev_iload dX5_track_90 rfl ?_
                refine ev_if_eq 105 dX5_track_92 (by omega) (fun c92 => ?_) (fun c92 => ?_)
                · refine ev_iconst dX5_track_105 ?_
                  exact em_iret dX5_track_106 ⟨by unfold fTrack; rw [cif_neg (by omega)], Or.inl ⟨by omega, rfl⟩⟩
                · refine ev_iload dX5_track_95 rfl ?_
                  refine ev_if_eq 105 dX5_track_97 (by omega) (fun c97 => ?_) (fun c97 => ?_)
                  · refine ev_iconst dX5_track_105 ?_
                    exact em_iret dX5_track_106 ⟨by unfold fTrack; rw [cif_neg (by omega)], Or.inl ⟨by omega, rfl⟩⟩
                  · refine ev_iload dX5_track_100 rfl ?_
                    refine ev_if_eq 107 dX5_track_102 (by omega) (fun c102 => ?_) (fun c102 => ?_)
                    · exfalso; omega
                    · refine ev_iconst dX5_track_105 ?_
                      exact em_iret dX5_track_106 ⟨by unfold fTrack; rw [cif_neg (by omega)], Or.inl ⟨by omega, rfl⟩⟩
              · refine ev_iload_n dX5_track_77 rfl ?_
                refine ev_iload dX5_track_78 rfl ?_
                refine ev_icmp_ne 87 dX5_track_80 (by omega) (by omega) (fun c80 => ?_) (fun c80 => ?_)
                · refine ev_iconst dX5_track_87 ?_
                  refine ev_istore dX5_track_88 (by decide) ?_
                  refine ev_ls [some (vR _), some (vI _), some (vI _), some (vI _), some (vI _), some (vI _), some (vI _), some (vI _), some (vI _), some (vI _), none] rfl ?_
                  refine ev_iload dX5_track_90 rfl ?_
                  refine ev_if_eq 105 dX5_track_92 (by omega) (fun c92 => ?_) (fun c92 => ?_)
                  · refine ev_iconst dX5_track_105 ?_
                    exact em_iret dX5_track_106 ⟨by unfold fTrack; rw [cif_neg (by omega)], Or.inl ⟨by omega, rfl⟩⟩
                  · refine ev_iload dX5_track_95 rfl ?_
                    refine ev_if_eq 105 dX5_track_97 (by omega) (fun c97 => ?_) (fun c97 => ?_)
                    · refine ev_iconst dX5_track_105 ?_
                      exact em_iret dX5_track_106 ⟨by unfold fTrack; rw [cif_neg (by omega)], Or.inl ⟨by omega, rfl⟩⟩
                    · refine ev_iload dX5_track_100 rfl ?_
                      refine ev_if_eq 107 dX5_track_102 (by omega) (fun c102 => ?_) (fun c102 => ?_)
                      · exfalso; omega
                      · refine ev_iconst dX5_track_105 ?_
                        exact em_iret dX5_track_106 ⟨by unfold fTrack; rw [cif_neg (by omega)], Or.inl ⟨by omega, rfl⟩⟩
                · refine ev_iconst dX5_track_83 ?_
                  refine ev_goto 88 dX5_track_84 ?_
                  refine ev_istore dX5_track_88 (by decide) ?_
                  refine ev_ls [some (vR _), some (vI _), some (vI _), some (vI _), some (vI _), some (vI _), some (vI _), some (vI _), some (vI _), some (vI _), none] rfl ?_
                  refine ev_iload dX5_track_90 rfl ?_
                  refine ev_if_eq 105 dX5_track_92 (by omega) (fun c92 => ?_) (fun c92 => ?_)
                  · refine ev_iconst dX5_track_105 ?_
                    exact em_iret dX5_track_106 ⟨by unfold fTrack; rw [cif_neg (by omega)], Or.inl ⟨by omega, rfl⟩⟩
                  · refine ev_iload dX5_track_95 rfl ?_
                    refine ev_if_eq 105 dX5_track_97 (by omega) (fun c97 => ?_) (fun c97 => ?_)
                    · refine ev_iconst dX5_track_105 ?_
                      exact em_iret dX5_track_106 ⟨by unfold fTrack; rw [cif_neg (by omega)], Or.inl ⟨by omega, rfl⟩⟩
                    · refine ev_iload dX5_track_100 rfl ?_
                      refine ev_if_eq 107 dX5_track_102 (by omega) (fun c102 => ?_) (fun c102 => ?_)
                      · exfalso; omega
                      · refine ev_iconst dX5_track_105 ?_
                        exact em_iret dX5_track_106 ⟨by unfold fTrack; rw [cif_neg (by omega)], Or.inl ⟨by omega, rfl⟩⟩
      · refine ev_iload dX5_track_21 rfl ?_
        refine em_S1 (c_isOnMap l _ (by omega)) mX5_52 dX5_track_23 ?_
        rintro r M ⟨rfl, z23, rfl, h23⟩
        refine ev_if_eq 33 dX5_track_26 (by omega) (fun c26 => ?_) (fun c26 => ?_)
        · refine ev_iconst dX5_track_33 ?_
          refine ev_istore dX5_track_34 (by decide) ?_
          refine ev_ls [some (vR _), some (vI _), some (vI _), some (vI _), some (vI _), some (vI _), some (vI _), some (vI _), none, none, none] rfl ?_
          refine ev_iload dX5_track_36 rfl ?_
          refine ev_iconst dX5_track_38 ?_
          refine ev_ldc (1000000) kX5_56 dX5_track_39 (by decide) ?_
          refine em_S3 (c_isWithin l _ (by omega) (by omega) (by omega)) mX5_57 dX5_track_41 ?_
          rintro r M ⟨rfl, z41, rfl, h41⟩
          refine ev_if_eq 69 dX5_track_44 (by omega) (fun c44 => ?_) (fun c44 => ?_)
          · refine ev_iconst dX5_track_69 ?_
            refine ev_istore dX5_track_70 (by decide) ?_
            refine ev_ls [some (vR _), some (vI _), some (vI _), some (vI _), some (vI _), some (vI _), some (vI _), some (vI _), some (vI _), none, none] rfl ?_
            refine ev_iload_n dX5_track_72 rfl ?_
            refine ev_iload_n dX5_track_73 rfl ?_
            refine ev_icmp_ne 87 dX5_track_74 (by omega) (by omega) (fun c74 => ?_) (fun c74 => ?_)
            · refine ev_iconst dX5_track_87 ?_
              refine ev_istore dX5_track_88 (by decide) ?_
              refine ev_ls [some (vR _), some (vI _), some (vI _), some (vI _), some (vI _), some (vI _), some (vI _), some (vI _), some (vI _), some (vI _), none] rfl ?_
              refine ev_iload dX5_track_90 rfl ?_
              refine ev_if_eq 105 dX5_track_92 (by omega) (fun c92 => ?_) (fun c92 => ?_)
              · refine ev_iconst dX5_track_105 ?_
                exact em_iret dX5_track_106 ⟨by unfold fTrack; rw [cif_neg (by omega)], Or.inl ⟨by omega, rfl⟩⟩
              · refine ev_iload dX5_track_95 rfl ?_
                refine ev_if_eq 105 dX5_track_97 (by omega) (fun c97 => ?_) (fun c97 => ?_)
                · refine ev_iconst dX5_track_105 ?_
                  exact em_iret dX5_track_106 ⟨by unfold fTrack; rw [cif_neg (by omega)], Or.inl ⟨by omega, rfl⟩⟩
                · refine ev_iload dX5_track_100 rfl ?_
                  refine ev_if_eq 107 dX5_track_102 (by omega) (fun c102 => ?_) (fun c102 => ?_)
                  · exfalso; omega
                  · refine ev_iconst dX5_track_105 ?_
                    exact em_iret dX5_track_106 ⟨by unfold fTrack; rw [cif_neg (by omega)], Or.inl ⟨by omega, rfl⟩⟩
            · refine ev_iload_n dX5_track_77 rfl ?_
              refine ev_iload dX5_track_78 rfl ?_
              refine ev_icmp_ne 87 dX5_track_80 (by omega) (by omega) (fun c80 => ?_) (fun c80 => ?_)
              · refine ev_iconst dX5_track_87 ?_
                refine ev_istore dX5_track_88 (by decide) ?_
                refine ev_ls [some (vR _), some (vI _), some (vI _), some (vI _), some (vI _), some (vI _), some (vI _), some (vI _), some (vI _), some (vI _), none] rfl ?_
                refine ev_iload dX5_track_90 rfl ?_
                refine ev_if_eq 105 dX5_track_92 (by omega) (fun c92 => ?_) (fun c92 => ?_)
                · refine ev_iconst dX5_track_105 ?_
                  exact em_iret dX5_track_106 ⟨by unfold fTrack; rw [cif_neg (by omega)], Or.inl ⟨by omega, rfl⟩⟩
                · refine ev_iload dX5_track_95 rfl ?_
                  refine ev_if_eq 105 dX5_track_97 (by omega) (fun c97 => ?_) (fun c97 => ?_)
                  · refine ev_iconst dX5_track_105 ?_
                    exact em_iret dX5_track_106 ⟨by unfold fTrack; rw [cif_neg (by omega)], Or.inl ⟨by omega, rfl⟩⟩
                  · refine ev_iload dX5_track_100 rfl ?_
                    refine ev_if_eq 107 dX5_track_102 (by omega) (fun c102 => ?_) (fun c102 => ?_)
                    · exfalso; omega
                    · refine ev_iconst dX5_track_105 ?_
                      exact em_iret dX5_track_106 ⟨by unfold fTrack; rw [cif_neg (by omega)], Or.inl ⟨by omega, rfl⟩⟩
              · refine ev_iconst dX5_track_83 ?_
                refine ev_goto 88 dX5_track_84 ?_
                refine ev_istore dX5_track_88 (by decide) ?_
                refine ev_ls [some (vR _), some (vI _), some (vI _), some (vI _), some (vI _), some (vI _), some (vI _), some (vI _), some (vI _), some (vI _), none] rfl ?_
                refine ev_iload dX5_track_90 rfl ?_
                refine ev_if_eq 105 dX5_track_92 (by omega) (fun c92 => ?_) (fun c92 => ?_)
                · refine ev_iconst dX5_track_105 ?_
                  exact em_iret dX5_track_106 ⟨by unfold fTrack; rw [cif_neg (by omega)], Or.inl ⟨by omega, rfl⟩⟩
                · refine ev_iload dX5_track_95 rfl ?_
                  refine ev_if_eq 105 dX5_track_97 (by omega) (fun c97 => ?_) (fun c97 => ?_)
                  · refine ev_iconst dX5_track_105 ?_
                    exact em_iret dX5_track_106 ⟨by unfold fTrack; rw [cif_neg (by omega)], Or.inl ⟨by omega, rfl⟩⟩
                  · refine ev_iload dX5_track_100 rfl ?_
                    refine ev_if_eq 107 dX5_track_102 (by omega) (fun c102 => ?_) (fun c102 => ?_)
                    · exfalso; omega
                    · refine ev_iconst dX5_track_105 ?_
                      exact em_iret dX5_track_106 ⟨by unfold fTrack; rw [cif_neg (by omega)], Or.inl ⟨by omega, rfl⟩⟩
          · refine ev_iload dX5_track_47 rfl ?_
            refine ev_iconst dX5_track_49 ?_
            refine ev_ldc (1000000) kX5_56 dX5_track_50 (by decide) ?_
            refine em_S3 (c_isWithin l _ (by omega) (by omega) (by omega)) mX5_57 dX5_track_52 ?_
            rintro r M ⟨rfl, z52, rfl, h52⟩
            refine ev_if_eq 69 dX5_track_55 (by omega) (fun c55 => ?_) (fun c55 => ?_)
            · refine ev_iconst dX5_track_69 ?_
              refine ev_istore dX5_track_70 (by decide) ?_
              refine ev_ls [some (vR _), some (vI _), some (vI _), some (vI _), some (vI _), some (vI _), some (vI _), some (vI _), some (vI _), none, none] rfl ?_
              refine ev_iload_n dX5_track_72 rfl ?_
              refine ev_iload_n dX5_track_73 rfl ?_
              refine ev_icmp_ne 87 dX5_track_74 (by omega) (by omega) (fun c74 => ?_) (fun c74 => ?_)
              · refine ev_iconst dX5_track_87 ?_
                refine ev_istore dX5_track_88 (by decide) ?_
                refine ev_ls [some (vR _), some (vI _), some (vI _), some (vI _), some (vI _), some (vI _), some (vI _), some (vI _), some (vI _), some (vI _), none] rfl ?_
                refine ev_iload dX5_track_90 rfl ?_
                refine ev_if_eq 105 dX5_track_92 (by omega) (fun c92 => ?_) (fun c92 => ?_)
                · refine ev_iconst dX5_track_105 ?_
                  exact em_iret dX5_track_106 ⟨by unfold fTrack; rw [cif_neg (by omega)], Or.inl ⟨by omega, rfl⟩⟩
                · refine ev_iload dX5_track_95 rfl ?_
                  refine ev_if_eq 105 dX5_track_97 (by omega) (fun c97 => ?_) (fun c97 => ?_)
                  · refine ev_iconst dX5_track_105 ?_
                    exact em_iret dX5_track_106 ⟨by unfold fTrack; rw [cif_neg (by omega)], Or.inl ⟨by omega, rfl⟩⟩
                  · refine ev_iload dX5_track_100 rfl ?_
                    refine ev_if_eq 107 dX5_track_102 (by omega) (fun c102 => ?_) (fun c102 => ?_)
                    · exfalso; omega
                    · refine ev_iconst dX5_track_105 ?_
                      exact em_iret dX5_track_106 ⟨by unfold fTrack; rw [cif_neg (by omega)], Or.inl ⟨by omega, rfl⟩⟩
              · refine ev_iload_n dX5_track_77 rfl ?_
                refine ev_iload dX5_track_78 rfl ?_
                refine ev_icmp_ne 87 dX5_track_80 (by omega) (by omega) (fun c80 => ?_) (fun c80 => ?_)
                · refine ev_iconst dX5_track_87 ?_
                  refine ev_istore dX5_track_88 (by decide) ?_
                  refine ev_ls [some (vR _), some (vI _), some (vI _), some (vI _), some (vI _), some (vI _), some (vI _), some (vI _), some (vI _), some (vI _), none] rfl ?_
                  refine ev_iload dX5_track_90 rfl ?_
                  refine ev_if_eq 105 dX5_track_92 (by omega) (fun c92 => ?_) (fun c92 => ?_)
                  · refine ev_iconst dX5_track_105 ?_
                    exact em_iret dX5_track_106 ⟨by unfold fTrack; rw [cif_neg (by omega)], Or.inl ⟨by omega, rfl⟩⟩
                  · refine ev_iload dX5_track_95 rfl ?_
                    refine ev_if_eq 105 dX5_track_97 (by omega) (fun c97 => ?_) (fun c97 => ?_)
                    · refine ev_iconst dX5_track_105 ?_
                      exact em_iret dX5_track_106 ⟨by unfold fTrack; rw [cif_neg (by omega)], Or.inl ⟨by omega, rfl⟩⟩
                    · refine ev_iload dX5_track_100 rfl ?_
                      refine ev_if_eq 107 dX5_track_102 (by omega) (fun c102 => ?_) (fun c102 => ?_)
                      · exfalso; omega
                      · refine ev_iconst dX5_track_105 ?_
                        exact em_iret dX5_track_106 ⟨by unfold fTrack; rw [cif_neg (by omega)], Or.inl ⟨by omega, rfl⟩⟩
                · refine ev_iconst dX5_track_83 ?_
                  refine ev_goto 88 dX5_track_84 ?_
                  refine ev_istore dX5_track_88 (by decide) ?_
                  refine ev_ls [some (vR _), some (vI _), some (vI _), some (vI _), some (vI _), some (vI _), some (vI _), some (vI _), some (vI _), some (vI _), none] rfl ?_
                  refine ev_iload dX5_track_90 rfl ?_
                  refine ev_if_eq 105 dX5_track_92 (by omega) (fun c92 => ?_) (fun c92 => ?_)
                  · refine ev_iconst dX5_track_105 ?_
                    exact em_iret dX5_track_106 ⟨by unfold fTrack; rw [cif_neg (by omega)], Or.inl ⟨by omega, rfl⟩⟩
                  · refine ev_iload dX5_track_95 rfl ?_
                    refine ev_if_eq 105 dX5_track_97 (by omega) (fun c97 => ?_) (fun c97 => ?_)
                    · refine ev_iconst dX5_track_105 ?_
                      exact em_iret dX5_track_106 ⟨by unfold fTrack; rw [cif_neg (by omega)], Or.inl ⟨by omega, rfl⟩⟩
                    · refine ev_iload dX5_track_100 rfl ?_
                      refine ev_if_eq 107 dX5_track_102 (by omega) (fun c102 => ?_) (fun c102 => ?_)
                      · exfalso; omega
                      · refine ev_iconst dX5_track_105 ?_
                        exact em_iret dX5_track_106 ⟨by unfold fTrack; rw [cif_neg (by omega)], Or.inl ⟨by omega, rfl⟩⟩
            · refine ev_iload dX5_track_58 rfl ?_
              refine ev_iload dX5_track_60 rfl ?_
              refine ev_icmp_ge 69 dX5_track_62 (by omega) (by omega) (fun c62 => ?_) (fun c62 => ?_)
              · refine ev_iconst dX5_track_69 ?_
                refine ev_istore dX5_track_70 (by decide) ?_
                refine ev_ls [some (vR _), some (vI _), some (vI _), some (vI _), some (vI _), some (vI _), some (vI _), some (vI _), some (vI _), none, none] rfl ?_
                refine ev_iload_n dX5_track_72 rfl ?_
                refine ev_iload_n dX5_track_73 rfl ?_
                refine ev_icmp_ne 87 dX5_track_74 (by omega) (by omega) (fun c74 => ?_) (fun c74 => ?_)
                · refine ev_iconst dX5_track_87 ?_
                  refine ev_istore dX5_track_88 (by decide) ?_
                  refine ev_ls [some (vR _), some (vI _), some (vI _), some (vI _), some (vI _), some (vI _), some (vI _), some (vI _), some (vI _), some (vI _), none] rfl ?_
                  refine ev_iload dX5_track_90 rfl ?_
                  refine ev_if_eq 105 dX5_track_92 (by omega) (fun c92 => ?_) (fun c92 => ?_)
                  · refine ev_iconst dX5_track_105 ?_
                    exact em_iret dX5_track_106 ⟨by unfold fTrack; rw [cif_neg (by omega)], Or.inl ⟨by omega, rfl⟩⟩
                  · refine ev_iload dX5_track_95 rfl ?_
                    refine ev_if_eq 105 dX5_track_97 (by omega) (fun c97 => ?_) (fun c97 => ?_)
                    · refine ev_iconst dX5_track_105 ?_
                      exact em_iret dX5_track_106 ⟨by unfold fTrack; rw [cif_neg (by omega)], Or.inl ⟨by omega, rfl⟩⟩
                    · refine ev_iload dX5_track_100 rfl ?_
                      refine ev_if_eq 107 dX5_track_102 (by omega) (fun c102 => ?_) (fun c102 => ?_)
                      · exfalso; omega
                      · refine ev_iconst dX5_track_105 ?_
                        exact em_iret dX5_track_106 ⟨by unfold fTrack; rw [cif_neg (by omega)], Or.inl ⟨by omega, rfl⟩⟩
                · refine ev_iload_n dX5_track_77 rfl ?_
                  refine ev_iload dX5_track_78 rfl ?_
                  refine ev_icmp_ne 87 dX5_track_80 (by omega) (by omega) (fun c80 => ?_) (fun c80 => ?_)
                  · refine ev_iconst dX5_track_87 ?_
                    refine ev_istore dX5_track_88 (by decide) ?_
                    refine ev_ls [some (vR _), some (vI _), some (vI _), some (vI _), some (vI _), some (vI _), some (vI _), some (vI _), some (vI _), some (vI _), none] rfl ?_
                    refine ev_iload dX5_track_90 rfl ?_
                    refine ev_if_eq 105 dX5_track_92 (by omega) (fun c92 => ?_) (fun c92 => ?_)
                    · refine ev_iconst dX5_track_105 ?_
                      exact em_iret dX5_track_106 ⟨by unfold fTrack; rw [cif_neg (by omega)], Or.inl ⟨by omega, rfl⟩⟩
                    · refine ev_iload dX5_track_95 rfl ?_
                      refine ev_if_eq 105 dX5_track_97 (by omega) (fun c97 => ?_) (fun c97 => ?_)
                      · refine ev_iconst dX5_track_105 ?_
                        exact em_iret dX5_track_106 ⟨by unfold fTrack; rw [cif_neg (by omega)], Or.inl ⟨by omega, rfl⟩⟩
                      · refine ev_iload dX5_track_100 rfl ?_
                        refine ev_if_eq 107 dX5_track_102 (by omega) (fun c102 => ?_) (fun c102 => ?_)
                        · exfalso; omega
                        · refine ev_iconst dX5_track_105 ?_
                          exact em_iret dX5_track_106 ⟨by unfold fTrack; rw [cif_neg (by omega)], Or.inl ⟨by omega, rfl⟩⟩
                  · refine ev_iconst dX5_track_83 ?_
                    refine ev_goto 88 dX5_track_84 ?_
                    refine ev_istore dX5_track_88 (by decide) ?_
                    refine ev_ls [some (vR _), some (vI _), some (vI _), some (vI _), some (vI _), some (vI _), some (vI _), some (vI _), some (vI _), some (vI _), none] rfl ?_
                    refine ev_iload dX5_track_90 rfl ?_
                    refine ev_if_eq 105 dX5_track_92 (by omega) (fun c92 => ?_) (fun c92 => ?_)
                    · refine ev_iconst dX5_track_105 ?_
                      exact em_iret dX5_track_106 ⟨by unfold fTrack; rw [cif_neg (by omega)], Or.inl ⟨by omega, rfl⟩⟩
                    · refine ev_iload dX5_track_95 rfl ?_
                      refine ev_if_eq 105 dX5_track_97 (by omega) (fun c97 => ?_) (fun c97 => ?_)
                      · refine ev_iconst dX5_track_105 ?_
                        exact em_iret dX5_track_106 ⟨by unfold fTrack; rw [cif_neg (by omega)], Or.inl ⟨by omega, rfl⟩⟩
                      · refine ev_iload dX5_track_100 rfl ?_
                        refine ev_if_eq 107 dX5_track_102 (by omega) (fun c102 => ?_) (fun c102 => ?_)
                        · exfalso; omega
                        · refine ev_iconst dX5_track_105 ?_
                          exact em_iret dX5_track_106 ⟨by unfold fTrack; rw [cif_neg (by omega)], Or.inl ⟨by omega, rfl⟩⟩
              · refine ev_iconst dX5_track_65 ?_
                refine ev_goto 70 dX5_track_66 ?_
                refine ev_istore dX5_track_70 (by decide) ?_
                refine ev_ls [some (vR _), some (vI _), some (vI _), some (vI _), some (vI _), some (vI _), some (vI _), some (vI _), some (vI _), none, none] rfl ?_
                refine ev_iload_n dX5_track_72 rfl ?_
                refine ev_iload_n dX5_track_73 rfl ?_
                refine ev_icmp_ne 87 dX5_track_74 (by omega) (by omega) (fun c74 => ?_) (fun c74 => ?_)
                · refine ev_iconst dX5_track_87 ?_
                  refine ev_istore dX5_track_88 (by decide) ?_
                  refine ev_ls [some (vR _), some (vI _), some (vI _), some (vI _), some (vI _), some (vI _), some (vI _), some (vI _), some (vI _), some (vI _), none] rfl ?_
                  refine ev_iload dX5_track_90 rfl ?_
                  refine ev_if_eq 105 dX5_track_92 (by omega) (fun c92 => ?_) (fun c92 => ?_)
                  · refine ev_iconst dX5_track_105 ?_
                    exact em_iret dX5_track_106 ⟨by unfold fTrack; rw [cif_neg (by omega)], Or.inl ⟨by omega, rfl⟩⟩
                  · refine ev_iload dX5_track_95 rfl ?_
                    refine ev_if_eq 105 dX5_track_97 (by omega) (fun c97 => ?_) (fun c97 => ?_)
                    · refine ev_iconst dX5_track_105 ?_
                      exact em_iret dX5_track_106 ⟨by unfold fTrack; rw [cif_neg (by omega)], Or.inl ⟨by omega, rfl⟩⟩
                    · refine ev_iload dX5_track_100 rfl ?_
                      refine ev_if_eq 107 dX5_track_102 (by omega) (fun c102 => ?_) (fun c102 => ?_)
                      · exfalso; omega
                      · refine ev_iconst dX5_track_105 ?_
                        exact em_iret dX5_track_106 ⟨by unfold fTrack; rw [cif_neg (by omega)], Or.inl ⟨by omega, rfl⟩⟩
                · refine ev_iload_n dX5_track_77 rfl ?_
                  refine ev_iload dX5_track_78 rfl ?_
                  refine ev_icmp_ne 87 dX5_track_80 (by omega) (by omega) (fun c80 => ?_) (fun c80 => ?_)
                  · refine ev_iconst dX5_track_87 ?_
                    refine ev_istore dX5_track_88 (by decide) ?_
                    refine ev_ls [some (vR _), some (vI _), some (vI _), some (vI _), some (vI _), some (vI _), some (vI _), some (vI _), some (vI _), some (vI _), none] rfl ?_
                    refine ev_iload dX5_track_90 rfl ?_
                    refine ev_if_eq 105 dX5_track_92 (by omega) (fun c92 => ?_) (fun c92 => ?_)
                    · refine ev_iconst dX5_track_105 ?_
                      exact em_iret dX5_track_106 ⟨by unfold fTrack; rw [cif_neg (by omega)], Or.inl ⟨by omega, rfl⟩⟩
                    · refine ev_iload dX5_track_95 rfl ?_
                      refine ev_if_eq 105 dX5_track_97 (by omega) (fun c97 => ?_) (fun c97 => ?_)
                      · refine ev_iconst dX5_track_105 ?_
                        exact em_iret dX5_track_106 ⟨by unfold fTrack; rw [cif_neg (by omega)], Or.inl ⟨by omega, rfl⟩⟩
                      · refine ev_iload dX5_track_100 rfl ?_
                        refine ev_if_eq 107 dX5_track_102 (by omega) (fun c102 => ?_) (fun c102 => ?_)
                        · exfalso; omega
                        · refine ev_iconst dX5_track_105 ?_
                          exact em_iret dX5_track_106 ⟨by unfold fTrack; rw [cif_neg (by omega)], Or.inl ⟨by omega, rfl⟩⟩
                  · refine ev_iconst dX5_track_83 ?_
                    refine ev_goto 88 dX5_track_84 ?_
                    refine ev_istore dX5_track_88 (by decide) ?_
                    refine ev_ls [some (vR _), some (vI _), some (vI _), some (vI _), some (vI _), some (vI _), some (vI _), some (vI _), some (vI _), some (vI _), none] rfl ?_
                    refine ev_iload dX5_track_90 rfl ?_
                    refine ev_if_eq 105 dX5_track_92 (by omega) (fun c92 => ?_) (fun c92 => ?_)
                    · refine ev_iconst dX5_track_105 ?_
                      exact em_iret dX5_track_106 ⟨by unfold fTrack; rw [cif_neg (by omega)], Or.inl ⟨by omega, rfl⟩⟩
                    · refine ev_iload dX5_track_95 rfl ?_
                      refine ev_if_eq 105 dX5_track_97 (by omega) (fun c97 => ?_) (fun c97 => ?_)
                      · refine ev_iconst dX5_track_105 ?_
                        exact em_iret dX5_track_106 ⟨by unfold fTrack; rw [cif_neg (by omega)], Or.inl ⟨by omega, rfl⟩⟩
                      · refine ev_iload dX5_track_100 rfl ?_
                        refine ev_if_eq 107 dX5_track_102 (by omega) (fun c102 => ?_) (fun c102 => ?_)
                        · exfalso; omega
                        · refine ev_iconst dX5_track_105 ?_
                          exact em_iret dX5_track_106 ⟨by unfold fTrack; rw [cif_neg (by omega)], Or.inl ⟨by omega, rfl⟩⟩
        · refine ev_iconst dX5_track_29 ?_
          refine ev_goto 34 dX5_track_30 ?_
          refine ev_istore dX5_track_34 (by decide) ?_
          refine ev_ls [some (vR _), some (vI _), some (vI _), some (vI _), some (vI _), some (vI _), some (vI _), some (vI _), none, none, none] rfl ?_
          refine ev_iload dX5_track_36 rfl ?_
          refine ev_iconst dX5_track_38 ?_
          refine ev_ldc (1000000) kX5_56 dX5_track_39 (by decide) ?_
          refine em_S3 (c_isWithin l _ (by omega) (by omega) (by omega)) mX5_57 dX5_track_41 ?_
          rintro r M ⟨rfl, z41, rfl, h41⟩
          refine ev_if_eq 69 dX5_track_44 (by omega) (fun c44 => ?_) (fun c44 => ?_)
          · refine ev_iconst dX5_track_69 ?_
            refine ev_istore dX5_track_70 (by decide) ?_
            refine ev_ls [some (vR _), some (vI _), some (vI _), some (vI _), some (vI _), some (vI _), some (vI _), some (vI _), some (vI _), none, none] rfl ?_
            refine ev_iload_n dX5_track_72 rfl ?_
            refine ev_iload_n dX5_track_73 rfl ?_
            refine ev_icmp_ne 87 dX5_track_74 (by omega) (by omega) (fun c74 => ?_) (fun c74 => ?_)
            · refine ev_iconst dX5_track_87 ?_
              refine ev_istore dX5_track_88 (by decide) ?_
              refine ev_ls [some (vR _), some (vI _), some (vI _), some (vI _), some (vI _), some (vI _), some (vI _), some (vI _), some (vI _), some (vI _), none] rfl ?_
              refine ev_iload dX5_track_90 rfl ?_
              refine ev_if_eq 105 dX5_track_92 (by omega) (fun c92 => ?_) (fun c92 => ?_)
              · refine ev_iconst dX5_track_105 ?_
                exact em_iret dX5_track_106 ⟨by unfold fTrack; rw [cif_neg (by omega)], Or.inl ⟨by omega, rfl⟩⟩
              · refine ev_iload dX5_track_95 rfl ?_
                refine ev_if_eq 105 dX5_track_97 (by omega) (fun c97 => ?_) (fun c97 => ?_)
                · refine ev_iconst dX5_track_105 ?_
                  exact em_iret dX5_track_106 ⟨by unfold fTrack; rw [cif_neg (by omega)], Or.inl ⟨by omega, rfl⟩⟩
                · refine ev_iload dX5_track_100 rfl ?_
                  refine ev_if_eq 107 dX5_track_102 (by omega) (fun c102 => ?_) (fun c102 => ?_)
                  · exfalso; omega
                  · refine ev_iconst dX5_track_105 ?_
                    exact em_iret dX5_track_106 ⟨by unfold fTrack; rw [cif_neg (by omega)], Or.inl ⟨by omega, rfl⟩⟩
            · refine ev_iload_n dX5_track_77 rfl ?_
              refine ev_iload dX5_track_78 rfl ?_
              refine ev_icmp_ne 87 dX5_track_80 (by omega) (by omega) (fun c80 => ?_) (fun c80 => ?_)
              · refine ev_iconst dX5_track_87 ?_
                refine ev_istore dX5_track_88 (by decide) ?_
                refine ev_ls [some (vR _), some (vI _), some (vI _), some (vI _), some (vI _), some (vI _), some (vI _), some (vI _), some (vI _), some (vI _), none] rfl ?_
                refine ev_iload dX5_track_90 rfl ?_
                refine ev_if_eq 105 dX5_track_92 (by omega) (fun c92 => ?_) (fun c92 => ?_)
                · refine ev_iconst dX5_track_105 ?_
                  exact em_iret dX5_track_106 ⟨by unfold fTrack; rw [cif_neg (by omega)], Or.inl ⟨by omega, rfl⟩⟩
                · refine ev_iload dX5_track_95 rfl ?_
                  refine ev_if_eq 105 dX5_track_97 (by omega) (fun c97 => ?_) (fun c97 => ?_)
                  · refine ev_iconst dX5_track_105 ?_
                    exact em_iret dX5_track_106 ⟨by unfold fTrack; rw [cif_neg (by omega)], Or.inl ⟨by omega, rfl⟩⟩
                  · refine ev_iload dX5_track_100 rfl ?_
                    refine ev_if_eq 107 dX5_track_102 (by omega) (fun c102 => ?_) (fun c102 => ?_)
                    · exfalso; omega
                    · refine ev_iconst dX5_track_105 ?_
                      exact em_iret dX5_track_106 ⟨by unfold fTrack; rw [cif_neg (by omega)], Or.inl ⟨by omega, rfl⟩⟩
              · refine ev_iconst dX5_track_83 ?_
                refine ev_goto 88 dX5_track_84 ?_
                refine ev_istore dX5_track_88 (by decide) ?_
                refine ev_ls [some (vR _), some (vI _), some (vI _), some (vI _), some (vI _), some (vI _), some (vI _), some (vI _), some (vI _), some (vI _), none] rfl ?_
                refine ev_iload dX5_track_90 rfl ?_
                refine ev_if_eq 105 dX5_track_92 (by omega) (fun c92 => ?_) (fun c92 => ?_)
                · refine ev_iconst dX5_track_105 ?_
                  exact em_iret dX5_track_106 ⟨by unfold fTrack; rw [cif_neg (by omega)], Or.inl ⟨by omega, rfl⟩⟩
                · refine ev_iload dX5_track_95 rfl ?_
                  refine ev_if_eq 105 dX5_track_97 (by omega) (fun c97 => ?_) (fun c97 => ?_)
                  · refine ev_iconst dX5_track_105 ?_
                    exact em_iret dX5_track_106 ⟨by unfold fTrack; rw [cif_neg (by omega)], Or.inl ⟨by omega, rfl⟩⟩
                  · refine ev_iload dX5_track_100 rfl ?_
                    refine ev_if_eq 107 dX5_track_102 (by omega) (fun c102 => ?_) (fun c102 => ?_)
                    · exfalso; omega
                    · refine ev_iconst dX5_track_105 ?_
                      exact em_iret dX5_track_106 ⟨by unfold fTrack; rw [cif_neg (by omega)], Or.inl ⟨by omega, rfl⟩⟩
          · refine ev_iload dX5_track_47 rfl ?_
            refine ev_iconst dX5_track_49 ?_
            refine ev_ldc (1000000) kX5_56 dX5_track_50 (by decide) ?_
            refine em_S3 (c_isWithin l _ (by omega) (by omega) (by omega)) mX5_57 dX5_track_52 ?_
            rintro r M ⟨rfl, z52, rfl, h52⟩
            refine ev_if_eq 69 dX5_track_55 (by omega) (fun c55 => ?_) (fun c55 => ?_)
            · refine ev_iconst dX5_track_69 ?_
              refine ev_istore dX5_track_70 (by decide) ?_
              refine ev_ls [some (vR _), some (vI _), some (vI _), some (vI _), some (vI _), some (vI _), some (vI _), some (vI _), some (vI _), none, none] rfl ?_
              refine ev_iload_n dX5_track_72 rfl ?_
              refine ev_iload_n dX5_track_73 rfl ?_
              refine ev_icmp_ne 87 dX5_track_74 (by omega) (by omega) (fun c74 => ?_) (fun c74 => ?_)
              · refine ev_iconst dX5_track_87 ?_
                refine ev_istore dX5_track_88 (by decide) ?_
                refine ev_ls [some (vR _), some (vI _), some (vI _), some (vI _), some (vI _), some (vI _), some (vI _), some (vI _), some (vI _), some (vI _), none] rfl ?_
                refine ev_iload dX5_track_90 rfl ?_
                refine ev_if_eq 105 dX5_track_92 (by omega) (fun c92 => ?_) (fun c92 => ?_)
                · refine ev_iconst dX5_track_105 ?_
                  exact em_iret dX5_track_106 ⟨by unfold fTrack; rw [cif_neg (by omega)], Or.inl ⟨by omega, rfl⟩⟩
                · refine ev_iload dX5_track_95 rfl ?_
                  refine ev_if_eq 105 dX5_track_97 (by omega) (fun c97 => ?_) (fun c97 => ?_)
                  · refine ev_iconst dX5_track_105 ?_
                    exact em_iret dX5_track_106 ⟨by unfold fTrack; rw [cif_neg (by omega)], Or.inl ⟨by omega, rfl⟩⟩
                  · refine ev_iload dX5_track_100 rfl ?_
                    refine ev_if_eq 107 dX5_track_102 (by omega) (fun c102 => ?_) (fun c102 => ?_)
                    · exfalso; omega
                    · refine ev_iconst dX5_track_105 ?_
                      exact em_iret dX5_track_106 ⟨by unfold fTrack; rw [cif_neg (by omega)], Or.inl ⟨by omega, rfl⟩⟩
              · refine ev_iload_n dX5_track_77 rfl ?_
                refine ev_iload dX5_track_78 rfl ?_
                refine ev_icmp_ne 87 dX5_track_80 (by omega) (by omega) (fun c80 => ?_) (fun c80 => ?_)
                · refine ev_iconst dX5_track_87 ?_
                  refine ev_istore dX5_track_88 (by decide) ?_
                  refine ev_ls [some (vR _), some (vI _), some (vI _), some (vI _), some (vI _), some (vI _), some (vI _), some (vI _), some (vI _), some (vI _), none] rfl ?_
                  refine ev_iload dX5_track_90 rfl ?_
                  refine ev_if_eq 105 dX5_track_92 (by omega) (fun c92 => ?_) (fun c92 => ?_)
                  · refine ev_iconst dX5_track_105 ?_
                    exact em_iret dX5_track_106 ⟨by unfold fTrack; rw [cif_neg (by omega)], Or.inl ⟨by omega, rfl⟩⟩
                  · refine ev_iload dX5_track_95 rfl ?_
                    refine ev_if_eq 105 dX5_track_97 (by omega) (fun c97 => ?_) (fun c97 => ?_)
                    · refine ev_iconst dX5_track_105 ?_
                      exact em_iret dX5_track_106 ⟨by unfold fTrack; rw [cif_neg (by omega)], Or.inl ⟨by omega, rfl⟩⟩
                    · refine ev_iload dX5_track_100 rfl ?_
                      refine ev_if_eq 107 dX5_track_102 (by omega) (fun c102 => ?_) (fun c102 => ?_)
                      · exfalso; omega
                      · refine ev_iconst dX5_track_105 ?_
                        exact em_iret dX5_track_106 ⟨by unfold fTrack; rw [cif_neg (by omega)], Or.inl ⟨by omega, rfl⟩⟩
                · refine ev_iconst dX5_track_83 ?_
                  refine ev_goto 88 dX5_track_84 ?_
                  refine ev_istore dX5_track_88 (by decide) ?_
                  refine ev_ls [some (vR _), some (vI _), some (vI _), some (vI _), some (vI _), some (vI _), some (vI _), some (vI _), some (vI _), some (vI _), none] rfl ?_
                  refine ev_iload dX5_track_90 rfl ?_
                  refine ev_if_eq 105 dX5_track_92 (by omega) (fun c92 => ?_) (fun c92 => ?_)
                  · refine ev_iconst dX5_track_105 ?_
                    exact em_iret dX5_track_106 ⟨by unfold fTrack; rw [cif_neg (by omega)], Or.inl ⟨by omega, rfl⟩⟩
                  · refine ev_iload dX5_track_95 rfl ?_
                    refine ev_if_eq 105 dX5_track_97 (by omega) (fun c97 => ?_) (fun c97 => ?_)
                    · refine ev_iconst dX5_track_105 ?_
                      exact em_iret dX5_track_106 ⟨by unfold fTrack; rw [cif_neg (by omega)], Or.inl ⟨by omega, rfl⟩⟩
                    · refine ev_iload dX5_track_100 rfl ?_
                      refine ev_if_eq 107 dX5_track_102 (by omega) (fun c102 => ?_) (fun c102 => ?_)
                      · exfalso; omega
                      · refine ev_iconst dX5_track_105 ?_
                        exact em_iret dX5_track_106 ⟨by unfold fTrack; rw [cif_neg (by omega)], Or.inl ⟨by omega, rfl⟩⟩
            · refine ev_iload dX5_track_58 rfl ?_
              refine ev_iload dX5_track_60 rfl ?_
              refine ev_icmp_ge 69 dX5_track_62 (by omega) (by omega) (fun c62 => ?_) (fun c62 => ?_)
              · refine ev_iconst dX5_track_69 ?_
                refine ev_istore dX5_track_70 (by decide) ?_
                refine ev_ls [some (vR _), some (vI _), some (vI _), some (vI _), some (vI _), some (vI _), some (vI _), some (vI _), some (vI _), none, none] rfl ?_
                refine ev_iload_n dX5_track_72 rfl ?_
                refine ev_iload_n dX5_track_73 rfl ?_
                refine ev_icmp_ne 87 dX5_track_74 (by omega) (by omega) (fun c74 => ?_) (fun c74 => ?_)
                · refine ev_iconst dX5_track_87 ?_
                  refine ev_istore dX5_track_88 (by decide) ?_
                  refine ev_ls [some (vR _), some (vI _), some (vI _), some (vI _), some (vI _), some (vI _), some (vI _), some (vI _), some (vI _), some (vI _), none] rfl ?_
                  refine ev_iload dX5_track_90 rfl ?_
                  refine ev_if_eq 105 dX5_track_92 (by omega) (fun c92 => ?_) (fun c92 => ?_)
                  · refine ev_iconst dX5_track_105 ?_
                    exact em_iret dX5_track_106 ⟨by unfold fTrack; rw [cif_neg (by omega)], Or.inl ⟨by omega, rfl⟩⟩
                  · refine ev_iload dX5_track_95 rfl ?_
                    refine ev_if_eq 105 dX5_track_97 (by omega) (fun c97 => ?_) (fun c97 => ?_)
                    · refine ev_iconst dX5_track_105 ?_
                      exact em_iret dX5_track_106 ⟨by unfold fTrack; rw [cif_neg (by omega)], Or.inl ⟨by omega, rfl⟩⟩
                    · refine ev_iload dX5_track_100 rfl ?_
                      refine ev_if_eq 107 dX5_track_102 (by omega) (fun c102 => ?_) (fun c102 => ?_)
                      · exfalso; omega
                      · refine ev_iconst dX5_track_105 ?_
                        exact em_iret dX5_track_106 ⟨by unfold fTrack; rw [cif_neg (by omega)], Or.inl ⟨by omega, rfl⟩⟩
                · refine ev_iload_n dX5_track_77 rfl ?_
                  refine ev_iload dX5_track_78 rfl ?_
                  refine ev_icmp_ne 87 dX5_track_80 (by omega) (by omega) (fun c80 => ?_) (fun c80 => ?_)
                  · refine ev_iconst dX5_track_87 ?_
                    refine ev_istore dX5_track_88 (by decide) ?_
                    refine ev_ls [some (vR _), some (vI _), some (vI _), some (vI _), some (vI _), some (vI _), some (vI _), some (vI _), some (vI _), some (vI _), none] rfl ?_
                    refine ev_iload dX5_track_90 rfl ?_
                    refine ev_if_eq 105 dX5_track_92 (by omega) (fun c92 => ?_) (fun c92 => ?_)
                    · refine ev_iconst dX5_track_105 ?_
                      exact em_iret dX5_track_106 ⟨by unfold fTrack; rw [cif_neg (by omega)], Or.inl ⟨by omega, rfl⟩⟩
                    · refine ev_iload dX5_track_95 rfl ?_
                      refine ev_if_eq 105 dX5_track_97 (by omega) (fun c97 => ?_) (fun c97 => ?_)
                      · refine ev_iconst dX5_track_105 ?_
                        exact em_iret dX5_track_106 ⟨by unfold fTrack; rw [cif_neg (by omega)], Or.inl ⟨by omega, rfl⟩⟩
                      · refine ev_iload dX5_track_100 rfl ?_
                        refine ev_if_eq 107 dX5_track_102 (by omega) (fun c102 => ?_) (fun c102 => ?_)
                        · exfalso; omega
                        · refine ev_iconst dX5_track_105 ?_
                          exact em_iret dX5_track_106 ⟨by unfold fTrack; rw [cif_neg (by omega)], Or.inl ⟨by omega, rfl⟩⟩
                  · refine ev_iconst dX5_track_83 ?_
                    refine ev_goto 88 dX5_track_84 ?_
                    refine ev_istore dX5_track_88 (by decide) ?_
                    refine ev_ls [some (vR _), some (vI _), some (vI _), some (vI _), some (vI _), some (vI _), some (vI _), some (vI _), some (vI _), some (vI _), none] rfl ?_
                    refine ev_iload dX5_track_90 rfl ?_
                    refine ev_if_eq 105 dX5_track_92 (by omega) (fun c92 => ?_) (fun c92 => ?_)
                    · refine ev_iconst dX5_track_105 ?_
                      exact em_iret dX5_track_106 ⟨by unfold fTrack; rw [cif_neg (by omega)], Or.inl ⟨by omega, rfl⟩⟩
                    · refine ev_iload dX5_track_95 rfl ?_
                      refine ev_if_eq 105 dX5_track_97 (by omega) (fun c97 => ?_) (fun c97 => ?_)
                      · refine ev_iconst dX5_track_105 ?_
                        exact em_iret dX5_track_106 ⟨by unfold fTrack; rw [cif_neg (by omega)], Or.inl ⟨by omega, rfl⟩⟩
                      · refine ev_iload dX5_track_100 rfl ?_
                        refine ev_if_eq 107 dX5_track_102 (by omega) (fun c102 => ?_) (fun c102 => ?_)
                        · exfalso; omega
                        · refine ev_iconst dX5_track_105 ?_
                          exact em_iret dX5_track_106 ⟨by unfold fTrack; rw [cif_neg (by omega)], Or.inl ⟨by omega, rfl⟩⟩
              · refine ev_iconst dX5_track_65 ?_
                refine ev_goto 70 dX5_track_66 ?_
                refine ev_istore dX5_track_70 (by decide) ?_
                refine ev_ls [some (vR _), some (vI _), some (vI _), some (vI _), some (vI _), some (vI _), some (vI _), some (vI _), some (vI _), none, none] rfl ?_
                refine ev_iload_n dX5_track_72 rfl ?_
                refine ev_iload_n dX5_track_73 rfl ?_
                refine ev_icmp_ne 87 dX5_track_74 (by omega) (by omega) (fun c74 => ?_) (fun c74 => ?_)
                · refine ev_iconst dX5_track_87 ?_
                  refine ev_istore dX5_track_88 (by decide) ?_
                  refine ev_ls [some (vR _), some (vI _), some (vI _), some (vI _), some (vI _), some (vI _), some (vI _), some (vI _), some (vI _), some (vI _), none] rfl ?_
                  refine ev_iload dX5_track_90 rfl ?_
                  refine ev_if_eq 105 dX5_track_92 (by omega) (fun c92 => ?_) (fun c92 => ?_)
                  · refine ev_iconst dX5_track_105 ?_
                    exact em_iret dX5_track_106 ⟨by unfold fTrack; rw [cif_neg (by omega)], Or.inl ⟨by omega, rfl⟩⟩
                  · refine ev_iload dX5_track_95 rfl ?_
                    refine ev_if_eq 105 dX5_track_97 (by omega) (fun c97 => ?_) (fun c97 => ?_)
                    · refine ev_iconst dX5_track_105 ?_
                      exact em_iret dX5_track_106 ⟨by unfold fTrack; rw [cif_neg (by omega)], Or.inl ⟨by omega, rfl⟩⟩
                    · refine ev_iload dX5_track_100 rfl ?_
                      refine ev_if_eq 107 dX5_track_102 (by omega) (fun c102 => ?_) (fun c102 => ?_)
                      · refine ev_aload_n dX5_track_107 rfl ?_
                        refine em_getI fX5_44.g dX5_track_108 lay_0 rfl ?_
                        refine ev_bipush dX5_track_111 (by decide) ?_
                        refine ev_icmp_lt 119 dX5_track_113 (by omega) (by omega) (fun c113 => ?_) (fun c113 => ?_)
                        · have h8' : T < 8 := by omega
                          refine ev_aload_n dX5_track_119 rfl ?_
                          refine em_getR fX5_11.g dX5_track_120 lay_0 rfl ?_
                          refine ev_aload_n dX5_track_123 rfl ?_
                          refine em_getI fX5_44.g dX5_track_124 lay_0 rfl ?_
                          rw [h5]
                          refine en_trk T dX5_track_127 (by omega) (by omega) ?_
                          refine ev_astore dX5_track_128 (by decide) ?_
                          refine ev_ls [some (vR _), some (vI _), some (vI _), some (vI _), some (vI _), some (vI _), some (vI _), some (vI _), some (vI _), some (vI _), some (vR _)] rfl ?_
                          refine ev_aload dX5_track_130 rfl ?_
                          refine ev_iload_n dX5_track_132 rfl ?_
                          refine ev_iload_n dX5_track_133 rfl ?_
                          refine ev_iload dX5_track_134 rfl ?_
                          refine em_V3 (c_runFrom l (i := T) (by omega)) mX5_61 dX5_track_136 (lay_trk (i := T) (by omega)) ?_
                          rintro r M1 ⟨rfl, rfl⟩
                          refine ev_aload dX5_track_139 rfl ?_
                          refine ev_iload_n dX5_track_141 rfl ?_
                          refine ev_iload dX5_track_142 rfl ?_
                          refine ev_iload dX5_track_144 rfl ?_
                          refine em_V3 (c_runTo l (i := T) (by omega)) mX5_65 dX5_track_146 (lay_trk (i := T) (by omega)) ?_
                          rintro r M2 ⟨rfl, rfl⟩
                          refine ev_aload_n dX5_track_149 rfl ?_
                          refine ev_dup_R dX5_track_150 ?_
                          refine em_getI fX5_44.g dX5_track_151 lay_0 rfl ?_
                          refine ev_iconst dX5_track_154 ?_
                          refine ev_iadd dX5_track_155 ?_
                          refine em_putI fX5_44 dX5_track_156 lay_0 rfl ?_
                          refine ev_aload_n dX5_track_159 rfl ?_
                          refine ev_iconst dX5_track_160 ?_
                          refine em_putZ fX5_48 dX5_track_161 lay_0 rfl (by omega) ?_
                          refine ev_aload_n dX5_track_164 rfl ?_
                          refine em_getI fX5_44.g dX5_track_165 lay_0 rfl ?_
                          refine ev_iconst dX5_track_168 ?_
                          refine ev_isub dX5_track_169 ?_
                          refine em_iret dX5_track_170 ⟨?_, Or.inr ⟨by omega, h8', ?_⟩⟩
                          · unfold fTrack; rw [cif_pos (by omega), if_neg (by omega)]
                            have e1 : (2 + 2 * T) ≠ 0 := by omega
                            have e2 : 0 ≠ (2 + 2 * T) := by omega
                            simp [up2_at, h5, e1, e2]
                          · have e1 : (2 + 2 * T) ≠ 0 := by omega
                            have e2 : 0 ≠ (2 + 2 * T) := by omega
                            refine ⟨fun k k1 k2 => by simp only [up2_row _ _ _ _ k1, up2_row _ _ _ _ k2], ?_, ?_, ?_, ?_, ?_, ?_, ?_, ?_, ?_⟩ <;> simp [up2_at, h5, e1, e2]
                        · refine ev_bipush dX5_track_116 (by decide) ?_
                          exact em_iret dX5_track_118 ⟨by unfold fTrack; rw [cif_pos (by omega), if_pos (by omega)], Or.inl ⟨by omega, rfl⟩⟩
                      · refine ev_iconst dX5_track_105 ?_
                        exact em_iret dX5_track_106 ⟨by unfold fTrack; rw [cif_neg (by omega)], Or.inl ⟨by omega, rfl⟩⟩
                · refine ev_iload_n dX5_track_77 rfl ?_
                  refine ev_iload dX5_track_78 rfl ?_
                  refine ev_icmp_ne 87 dX5_track_80 (by omega) (by omega) (fun c80 => ?_) (fun c80 => ?_)
                  · refine ev_iconst dX5_track_87 ?_
                    refine ev_istore dX5_track_88 (by decide) ?_
                    refine ev_ls [some (vR _), some (vI _), some (vI _), some (vI _), some (vI _), some (vI _), some (vI _), some (vI _), some (vI _), some (vI _), none] rfl ?_
                    refine ev_iload dX5_track_90 rfl ?_
                    refine ev_if_eq 105 dX5_track_92 (by omega) (fun c92 => ?_) (fun c92 => ?_)
                    · refine ev_iconst dX5_track_105 ?_
                      exact em_iret dX5_track_106 ⟨by unfold fTrack; rw [cif_neg (by omega)], Or.inl ⟨by omega, rfl⟩⟩
                    · refine ev_iload dX5_track_95 rfl ?_
                      refine ev_if_eq 105 dX5_track_97 (by omega) (fun c97 => ?_) (fun c97 => ?_)
                      · refine ev_iconst dX5_track_105 ?_
                        exact em_iret dX5_track_106 ⟨by unfold fTrack; rw [cif_neg (by omega)], Or.inl ⟨by omega, rfl⟩⟩
                      · refine ev_iload dX5_track_100 rfl ?_
                        refine ev_if_eq 107 dX5_track_102 (by omega) (fun c102 => ?_) (fun c102 => ?_)
                        · refine ev_aload_n dX5_track_107 rfl ?_
                          refine em_getI fX5_44.g dX5_track_108 lay_0 rfl ?_
                          refine ev_bipush dX5_track_111 (by decide) ?_
                          refine ev_icmp_lt 119 dX5_track_113 (by omega) (by omega) (fun c113 => ?_) (fun c113 => ?_)
                          · have h8' : T < 8 := by omega
                            refine ev_aload_n dX5_track_119 rfl ?_
                            refine em_getR fX5_11.g dX5_track_120 lay_0 rfl ?_
                            refine ev_aload_n dX5_track_123 rfl ?_
                            refine em_getI fX5_44.g dX5_track_124 lay_0 rfl ?_
                            rw [h5]
                            refine en_trk T dX5_track_127 (by omega) (by omega) ?_
                            refine ev_astore dX5_track_128 (by decide) ?_
                            refine ev_ls [some (vR _), some (vI _), some (vI _), some (vI _), some (vI _), some (vI _), some (vI _), some (vI _), some (vI _), some (vI _), some (vR _)] rfl ?_
                            refine ev_aload dX5_track_130 rfl ?_
                            refine ev_iload_n dX5_track_132 rfl ?_
                            refine ev_iload_n dX5_track_133 rfl ?_
                            refine ev_iload dX5_track_134 rfl ?_
                            refine em_V3 (c_runFrom l (i := T) (by omega)) mX5_61 dX5_track_136 (lay_trk (i := T) (by omega)) ?_
                            rintro r M1 ⟨rfl, rfl⟩
                            refine ev_aload dX5_track_139 rfl ?_
                            refine ev_iload_n dX5_track_141 rfl ?_
                            refine ev_iload dX5_track_142 rfl ?_
                            refine ev_iload dX5_track_144 rfl ?_
                            refine em_V3 (c_runTo l (i := T) (by omega)) mX5_65 dX5_track_146 (lay_trk (i := T) (by omega)) ?_
                            rintro r M2 ⟨rfl, rfl⟩
                            refine ev_aload_n dX5_track_149 rfl ?_
                            refine ev_dup_R dX5_track_150 ?_
                            refine em_getI fX5_44.g dX5_track_151 lay_0 rfl ?_
                            refine ev_iconst dX5_track_154 ?_
                            refine ev_iadd dX5_track_155 ?_
                            refine em_putI fX5_44 dX5_track_156 lay_0 rfl ?_
                            refine ev_aload_n dX5_track_159 rfl ?_
                            refine ev_iconst dX5_track_160 ?_
                            refine em_putZ fX5_48 dX5_track_161 lay_0 rfl (by omega) ?_
                            refine ev_aload_n dX5_track_164 rfl ?_
                            refine em_getI fX5_44.g dX5_track_165 lay_0 rfl ?_
                            refine ev_iconst dX5_track_168 ?_
                            refine ev_isub dX5_track_169 ?_
                            refine em_iret dX5_track_170 ⟨?_, Or.inr ⟨by omega, h8', ?_⟩⟩
                            · unfold fTrack; rw [cif_pos (by omega), if_neg (by omega)]
                              have e1 : (2 + 2 * T) ≠ 0 := by omega
                              have e2 : 0 ≠ (2 + 2 * T) := by omega
                              simp [up2_at, h5, e1, e2]
                            · have e1 : (2 + 2 * T) ≠ 0 := by omega
                              have e2 : 0 ≠ (2 + 2 * T) := by omega
                              refine ⟨fun k k1 k2 => by simp only [up2_row _ _ _ _ k1, up2_row _ _ _ _ k2], ?_, ?_, ?_, ?_, ?_, ?_, ?_, ?_, ?_⟩ <;> simp [up2_at, h5, e1, e2]
                          · refine ev_bipush dX5_track_116 (by decide) ?_
                            exact em_iret dX5_track_118 ⟨by unfold fTrack; rw [cif_pos (by omega), if_pos (by omega)], Or.inl ⟨by omega, rfl⟩⟩
                        · refine ev_iconst dX5_track_105 ?_
                          exact em_iret dX5_track_106 ⟨by unfold fTrack; rw [cif_neg (by omega)], Or.inl ⟨by omega, rfl⟩⟩
                  · refine ev_iconst dX5_track_83 ?_
                    refine ev_goto 88 dX5_track_84 ?_
                    refine ev_istore dX5_track_88 (by decide) ?_
                    refine ev_ls [some (vR _), some (vI _), some (vI _), some (vI _), some (vI _), some (vI _), some (vI _), some (vI _), some (vI _), some (vI _), none] rfl ?_
                    refine ev_iload dX5_track_90 rfl ?_
                    refine ev_if_eq 105 dX5_track_92 (by omega) (fun c92 => ?_) (fun c92 => ?_)
                    · refine ev_iconst dX5_track_105 ?_
                      exact em_iret dX5_track_106 ⟨by unfold fTrack; rw [cif_neg (by omega)], Or.inl ⟨by omega, rfl⟩⟩
                    · refine ev_iload dX5_track_95 rfl ?_
                      refine ev_if_eq 105 dX5_track_97 (by omega) (fun c97 => ?_) (fun c97 => ?_)
                      · refine ev_iconst dX5_track_105 ?_
                        exact em_iret dX5_track_106 ⟨by unfold fTrack; rw [cif_neg (by omega)], Or.inl ⟨by omega, rfl⟩⟩
                      · refine ev_iload dX5_track_100 rfl ?_
                        refine ev_if_eq 107 dX5_track_102 (by omega) (fun c102 => ?_) (fun c102 => ?_)
                        · exfalso; omega
                        · refine ev_iconst dX5_track_105 ?_
                          exact em_iret dX5_track_106 ⟨by unfold fTrack; rw [cif_neg (by omega)], Or.inl ⟨by omega, rfl⟩⟩
set_option maxRecDepth 100000 in
set_option maxHeartbeats 4000000 in
theorem d_track (l : Launch) {M : Mem} {T : Nat} (h8 : T ≤ 8) (hT : M 53 0 = (T : Int)) {x0 y0 x1 y1 t0 t1 : Int} (hx0 : i32 x0) (hy0 : i32 y0) (hx1 : i32 x1) (hy1 : i32 y1) (ht0 : i32 t0) (ht1 : i32 t1) : Cm l yX6_track cX6_track 7 (some .int) 2 46 [vR 53, vI x0, vI y0, vI x1, vI y1, vI t0, vI t1] M (fun r M' => r = some (vI (fTrack T x0 y0 x1 y1 t0 t1)) ∧ ((¬ (VT x0 y0 x1 y1 t0 t1 ∧ T < 8) ∧ M' = M) ∨ (VT x0 y0 x1 y1 t0 t1 ∧ T < 8 ∧ TUm M T x0 y0 x1 y1 t0 t1 M'))) := by
  refine cmo [some (vR 53), some (vI x0), some (vI y0), some (vI x1), some (vI y1), some (vI t0), some (vI t1)] ?_
  refine ev_iload_n dX6_track_0 rfl ?_
  refine ev_iload_n dX6_track_1 rfl ?_
  refine em_S2 (d_isSpot l _ (by omega) (by omega)) mX6_52 dX6_track_2 ?_
  rintro r M ⟨rfl, z2, rfl, h2⟩
  refine ev_if_eq 61 dX6_track_5 (by omega) (fun c5 => ?_) (fun c5 => ?_)
  · refine ev_iconst dX6_track_61 ?_
    exact em_iret dX6_track_62 ⟨by unfold fTrack; rw [cif_neg (by omega)], Or.inl ⟨by omega, rfl⟩⟩
  · refine ev_iload_n dX6_track_8 rfl ?_
    refine ev_iload dX6_track_9 rfl ?_
    refine em_S2 (d_isSpot l _ (by omega) (by omega)) mX6_52 dX6_track_11 ?_
    rintro r M ⟨rfl, z11, rfl, h11⟩
    refine ev_if_eq 61 dX6_track_14 (by omega) (fun c14 => ?_) (fun c14 => ?_)
    · refine ev_iconst dX6_track_61 ?_
      exact em_iret dX6_track_62 ⟨by unfold fTrack; rw [cif_neg (by omega)], Or.inl ⟨by omega, rfl⟩⟩
    · refine ev_iload dX6_track_17 rfl ?_
      refine ev_i2l dX6_track_19 (by omega) ?_
      refine ev_lconst0 dX6_track_20 ?_
      refine ev_ldc2 (1000000) kX6_56 dX6_track_21 (by decide) ?_
      refine em_S3 (d_in l _ (by omega) (by omega) (by omega)) mX6_44 dX6_track_24 ?_
      rintro r M ⟨rfl, z24, rfl, h24⟩
      refine ev_if_eq 61 dX6_track_27 (by omega) (fun c27 => ?_) (fun c27 => ?_)
      · refine ev_iconst dX6_track_61 ?_
        exact em_iret dX6_track_62 ⟨by unfold fTrack; rw [cif_neg (by omega)], Or.inl ⟨by omega, rfl⟩⟩
      · refine ev_iload dX6_track_30 rfl ?_
        refine ev_i2l dX6_track_32 (by omega) ?_
        refine ev_lconst0 dX6_track_33 ?_
        refine ev_ldc2 (1000000) kX6_56 dX6_track_34 (by decide) ?_
        refine em_S3 (d_in l _ (by omega) (by omega) (by omega)) mX6_44 dX6_track_37 ?_
        rintro r M ⟨rfl, z37, rfl, h37⟩
        refine ev_if_eq 61 dX6_track_40 (by omega) (fun c40 => ?_) (fun c40 => ?_)
        · refine ev_iconst dX6_track_61 ?_
          exact em_iret dX6_track_62 ⟨by unfold fTrack; rw [cif_neg (by omega)], Or.inl ⟨by omega, rfl⟩⟩
        · refine ev_iload dX6_track_43 rfl ?_
          refine ev_iload dX6_track_45 rfl ?_
          refine ev_icmp_le 61 dX6_track_47 (by omega) (by omega) (fun c47 => ?_) (fun c47 => ?_)
          · refine ev_iconst dX6_track_61 ?_
            exact em_iret dX6_track_62 ⟨by unfold fTrack; rw [cif_neg (by omega)], Or.inl ⟨by omega, rfl⟩⟩
          · refine ev_iload_n dX6_track_50 rfl ?_
            refine ev_iload_n dX6_track_51 rfl ?_
            refine ev_icmp_ne 63 dX6_track_52 (by omega) (by omega) (fun c52 => ?_) (fun c52 => ?_)
            · refine ev_aload_n dX6_track_63 rfl ?_
              refine em_getI fX6_40.g dX6_track_64 lay_53 rfl ?_
              refine ev_bipush dX6_track_67 (by decide) ?_
              refine ev_icmp_ne 75 dX6_track_69 (by omega) (by omega) (fun c69 => ?_) (fun c69 => ?_)
              · have h8' : T < 8 := by omega
                refine ev_aload_n dX6_track_75 rfl ?_
                refine em_getR fX6_7.g dX6_track_76 lay_53 rfl ?_
                refine ev_bipush dX6_track_79 (by decide) ?_
                refine ev_aload_n dX6_track_81 rfl ?_
                refine em_getI fX6_40.g dX6_track_82 lay_53 rfl ?_
                rw [hT]
                refine ev_imul dX6_track_85 ?_
                refine ev_iload_n dX6_track_86 rfl ?_
                refine en_iast (6 * T) dX6_track_87 lay_54 (by omega) (by omega) ?_
                refine ev_aload_n dX6_track_88 rfl ?_
                refine em_getR fX6_7.g dX6_track_89 lay_53 rfl ?_
                refine ev_bipush dX6_track_92 (by decide) ?_
                refine ev_aload_n dX6_track_94 rfl ?_
                refine em_getI fX6_40.g dX6_track_95 lay_53 rfl ?_
                simp only [up2_ne _ _ _ _ (Or.inl (show 53 ≠ 54 by omega)), hT]
                refine ev_imul dX6_track_98 ?_
                refine ev_iconst dX6_track_99 ?_
                refine ev_iadd dX6_track_100 ?_
                refine ev_iload_n dX6_track_101 rfl ?_
                refine en_iast ((6 * T) + 1) dX6_track_102 lay_54 (by omega) (by omega) ?_
                refine ev_aload_n dX6_track_103 rfl ?_
                refine em_getR fX6_7.g dX6_track_104 lay_53 rfl ?_
                refine ev_bipush dX6_track_107 (by decide) ?_
                refine ev_aload_n dX6_track_109 rfl ?_
                refine em_getI fX6_40.g dX6_track_110 lay_53 rfl ?_
                simp only [up2_ne _ _ _ _ (Or.inl (show 53 ≠ 54 by omega)), hT]
                refine ev_imul dX6_track_113 ?_
                refine ev_iconst dX6_track_114 ?_
                refine ev_iadd dX6_track_115 ?_
                refine ev_iload_n dX6_track_116 rfl ?_
                refine en_iast ((6 * T) + 2) dX6_track_117 lay_54 (by omega) (by omega) ?_
                refine ev_aload_n dX6_track_118 rfl ?_
                refine em_getR fX6_7.g dX6_track_119 lay_53 rfl ?_
                refine ev_bipush dX6_track_122 (by decide) ?_
                refine ev_aload_n dX6_track_124 rfl ?_
                refine em_getI fX6_40.g dX6_track_125 lay_53 rfl ?_
                simp only [up2_ne _ _ _ _ (Or.inl (show 53 ≠ 54 by omega)), hT]
                refine ev_imul dX6_track_128 ?_
                refine ev_iconst dX6_track_129 ?_
                refine ev_iadd dX6_track_130 ?_
                refine ev_iload dX6_track_131 rfl ?_
                refine en_iast ((6 * T) + 3) dX6_track_133 lay_54 (by omega) (by omega) ?_
                refine ev_aload_n dX6_track_134 rfl ?_
                refine em_getR fX6_7.g dX6_track_135 lay_53 rfl ?_
                refine ev_bipush dX6_track_138 (by decide) ?_
                refine ev_aload_n dX6_track_140 rfl ?_
                refine em_getI fX6_40.g dX6_track_141 lay_53 rfl ?_
                simp only [up2_ne _ _ _ _ (Or.inl (show 53 ≠ 54 by omega)), hT]
                refine ev_imul dX6_track_144 ?_
                refine ev_iconst dX6_track_145 ?_
                refine ev_iadd dX6_track_146 ?_
                refine ev_iload dX6_track_147 rfl ?_
                refine en_iast ((6 * T) + 4) dX6_track_149 lay_54 (by omega) (by omega) ?_
                refine ev_aload_n dX6_track_150 rfl ?_
                refine em_getR fX6_7.g dX6_track_151 lay_53 rfl ?_
                refine ev_bipush dX6_track_154 (by decide) ?_
                refine ev_aload_n dX6_track_156 rfl ?_
                refine em_getI fX6_40.g dX6_track_157 lay_53 rfl ?_
                simp only [up2_ne _ _ _ _ (Or.inl (show 53 ≠ 54 by omega)), hT]
                refine ev_imul dX6_track_160 ?_
                refine ev_iconst dX6_track_161 ?_
                refine ev_iadd dX6_track_162 ?_
                refine ev_iload dX6_track_163 rfl ?_
                refine en_iast ((6 * T) + 5) dX6_track_165 lay_54 (by omega) (by omega) ?_
                refine ev_aload_n dX6_track_166 rfl ?_
                refine ev_dup_R dX6_track_167 ?_
                refine em_getI fX6_40.g dX6_track_168 lay_53 rfl ?_
                refine ev_iconst dX6_track_171 ?_
                refine ev_iadd dX6_track_172 ?_
                refine em_putI fX6_40 dX6_track_173 lay_53 rfl ?_
                refine ev_aload_n dX6_track_176 rfl ?_
                refine em_getI fX6_40.g dX6_track_177 lay_53 rfl ?_
                refine ev_iconst dX6_track_180 ?_
                refine ev_isub dX6_track_181 ?_
                refine em_iret dX6_track_182 ⟨?_, Or.inr ⟨by omega, h8', ?_⟩⟩
                · unfold fTrack; rw [cif_pos (by omega), if_neg (by omega)]
                  simp [up2_at, hT]
                · refine ⟨fun k k1 k2 => by simp only [up2_row _ _ _ _ k1, up2_row _ _ _ _ k2], ?_, ?_, ?_, ?_, ?_, ?_, ?_, ?_, fun q hq => ?_⟩
                  · simp [up2_at, hT]
                  · simp [up2_at, hT]
                  · simp [up2_at, hT]
                  · simp [up2_at, hT]
                  · simp [up2_at, hT]
                  · simp [up2_at, hT]
                  · simp [up2_at, hT]
                  · simp [up2_at, hT]
                  · have q0 : q ≠ 6 * T := by omega
                    have q1 : q ≠ 6 * T + 1 := by omega
                    have q2 : q ≠ 6 * T + 2 := by omega
                    have q3 : q ≠ 6 * T + 3 := by omega
                    have q4 : q ≠ 6 * T + 4 := by omega
                    have q5 : q ≠ 6 * T + 5 := by omega
                    simp [up2_at, q0, q1, q2, q3, q4, q5]
              · refine ev_bipush dX6_track_72 (by decide) ?_
                exact em_iret dX6_track_74 ⟨by unfold fTrack; rw [cif_pos (by omega), if_pos (by omega)], Or.inl ⟨by omega, rfl⟩⟩
            · refine ev_iload_n dX6_track_55 rfl ?_
              refine ev_iload dX6_track_56 rfl ?_
              refine ev_icmp_ne 63 dX6_track_58 (by omega) (by omega) (fun c58 => ?_) (fun c58 => ?_)
              · refine ev_aload_n dX6_track_63 rfl ?_
                refine em_getI fX6_40.g dX6_track_64 lay_53 rfl ?_
                refine ev_bipush dX6_track_67 (by decide) ?_
                refine ev_icmp_ne 75 dX6_track_69 (by omega) (by omega) (fun c69 => ?_) (fun c69 => ?_)
                · have h8' : T < 8 := by omega
                  refine ev_aload_n dX6_track_75 rfl ?_
                  refine em_getR fX6_7.g dX6_track_76 lay_53 rfl ?_
                  refine ev_bipush dX6_track_79 (by decide) ?_
                  refine ev_aload_n dX6_track_81 rfl ?_
                  refine em_getI fX6_40.g dX6_track_82 lay_53 rfl ?_
                  rw [hT]
                  refine ev_imul dX6_track_85 ?_
                  refine ev_iload_n dX6_track_86 rfl ?_
                  refine en_iast (6 * T) dX6_track_87 lay_54 (by omega) (by omega) ?_
                  refine ev_aload_n dX6_track_88 rfl ?_
                  refine em_getR fX6_7.g dX6_track_89 lay_53 rfl ?_
                  refine ev_bipush dX6_track_92 (by decide) ?_
                  refine ev_aload_n dX6_track_94 rfl ?_
                  refine em_getI fX6_40.g dX6_track_95 lay_53 rfl ?_
                  simp only [up2_ne _ _ _ _ (Or.inl (show 53 ≠ 54 by omega)), hT]
                  refine ev_imul dX6_track_98 ?_
                  refine ev_iconst dX6_track_99 ?_
                  refine ev_iadd dX6_track_100 ?_
                  refine ev_iload_n dX6_track_101 rfl ?_
                  refine en_iast ((6 * T) + 1) dX6_track_102 lay_54 (by omega) (by omega) ?_
                  refine ev_aload_n dX6_track_103 rfl ?_
                  refine em_getR fX6_7.g dX6_track_104 lay_53 rfl ?_
                  refine ev_bipush dX6_track_107 (by decide) ?_
                  refine ev_aload_n dX6_track_109 rfl ?_
                  refine em_getI fX6_40.g dX6_track_110 lay_53 rfl ?_
                  simp only [up2_ne _ _ _ _ (Or.inl (show 53 ≠ 54 by omega)), hT]
                  refine ev_imul dX6_track_113 ?_
                  refine ev_iconst dX6_track_114 ?_
                  refine ev_iadd dX6_track_115 ?_
                  refine ev_iload_n dX6_track_116 rfl ?_
                  refine en_iast ((6 * T) + 2) dX6_track_117 lay_54 (by omega) (by omega) ?_
                  refine ev_aload_n dX6_track_118 rfl ?_
                  refine em_getR fX6_7.g dX6_track_119 lay_53 rfl ?_
                  refine ev_bipush dX6_track_122 (by decide) ?_
                  refine ev_aload_n dX6_track_124 rfl ?_
                  refine em_getI fX6_40.g dX6_track_125 lay_53 rfl ?_
                  simp only [up2_ne _ _ _ _ (Or.inl (show 53 ≠ 54 by omega)), hT]
                  refine ev_imul dX6_track_128 ?_
                  refine ev_iconst dX6_track_129 ?_
                  refine ev_iadd dX6_track_130 ?_
                  refine ev_iload dX6_track_131 rfl ?_
                  refine en_iast ((6 * T) + 3) dX6_track_133 lay_54 (by omega) (by omega) ?_
                  refine ev_aload_n dX6_track_134 rfl ?_
                  refine em_getR fX6_7.g dX6_track_135 lay_53 rfl ?_
                  refine ev_bipush dX6_track_138 (by decide) ?_
                  refine ev_aload_n dX6_track_140 rfl ?_
                  refine em_getI fX6_40.g dX6_track_141 lay_53 rfl ?_
                  simp only [up2_ne _ _ _ _ (Or.inl (show 53 ≠ 54 by omega)), hT]
                  refine ev_imul dX6_track_144 ?_
                  refine ev_iconst dX6_track_145 ?_
                  refine ev_iadd dX6_track_146 ?_
                  refine ev_iload dX6_track_147 rfl ?_
                  refine en_iast ((6 * T) + 4) dX6_track_149 lay_54 (by omega) (by omega) ?_
                  refine ev_aload_n dX6_track_150 rfl ?_
                  refine em_getR fX6_7.g dX6_track_151 lay_53 rfl ?_
                  refine ev_bipush dX6_track_154 (by decide) ?_
                  refine ev_aload_n dX6_track_156 rfl ?_
                  refine em_getI fX6_40.g dX6_track_157 lay_53 rfl ?_
                  simp only [up2_ne _ _ _ _ (Or.inl (show 53 ≠ 54 by omega)), hT]
                  refine ev_imul dX6_track_160 ?_
                  refine ev_iconst dX6_track_161 ?_
                  refine ev_iadd dX6_track_162 ?_
                  refine ev_iload dX6_track_163 rfl ?_
                  refine en_iast ((6 * T) + 5) dX6_track_165 lay_54 (by omega) (by omega) ?_
                  refine ev_aload_n dX6_track_166 rfl ?_
                  refine ev_dup_R dX6_track_167 ?_
                  refine em_getI fX6_40.g dX6_track_168 lay_53 rfl ?_
                  refine ev_iconst dX6_track_171 ?_
                  refine ev_iadd dX6_track_172 ?_
                  refine em_putI fX6_40 dX6_track_173 lay_53 rfl ?_
                  refine ev_aload_n dX6_track_176 rfl ?_
                  refine em_getI fX6_40.g dX6_track_177 lay_53 rfl ?_
                  refine ev_iconst dX6_track_180 ?_
                  refine ev_isub dX6_track_181 ?_
                  refine em_iret dX6_track_182 ⟨?_, Or.inr ⟨by omega, h8', ?_⟩⟩
                  · unfold fTrack; rw [cif_pos (by omega), if_neg (by omega)]
                    simp [up2_at, hT]
                  · refine ⟨fun k k1 k2 => by simp only [up2_row _ _ _ _ k1, up2_row _ _ _ _ k2], ?_, ?_, ?_, ?_, ?_, ?_, ?_, ?_, fun q hq => ?_⟩
                    · simp [up2_at, hT]
                    · simp [up2_at, hT]
                    · simp [up2_at, hT]
                    · simp [up2_at, hT]
                    · simp [up2_at, hT]
                    · simp [up2_at, hT]
                    · simp [up2_at, hT]
                    · simp [up2_at, hT]
                    · have q0 : q ≠ 6 * T := by omega
                      have q1 : q ≠ 6 * T + 1 := by omega
                      have q2 : q ≠ 6 * T + 2 := by omega
                      have q3 : q ≠ 6 * T + 3 := by omega
                      have q4 : q ≠ 6 * T + 4 := by omega
                      have q5 : q ≠ 6 * T + 5 := by omega
                      simp [up2_at, q0, q1, q2, q3, q4, q5]
                · refine ev_bipush dX6_track_72 (by decide) ?_
                  exact em_iret dX6_track_74 ⟨by unfold fTrack; rw [cif_pos (by omega), if_pos (by omega)], Or.inl ⟨by omega, rfl⟩⟩
              · refine ev_iconst dX6_track_61 ?_
                exact em_iret dX6_track_62 ⟨by unfold fTrack; rw [cif_neg (by omega)], Or.inl ⟨by omega, rfl⟩⟩
set_option maxRecDepth 100000 in
set_option maxHeartbeats 4000000 in
theorem c_read (l : Launch) {M : Mem} {T : Nat} (h8 : T ≤ 8) (h5 : M 0 5 = (T : Int)) {a i v : Int} (ha : i32 a) (hi : i32 i) (hv : i32 v) : Cm l yX5_read cX5_read 6 (some .int) 1 22 [vR 0, vI a, vI i, vI v] M (fun r M' => (((0 ≤ a ∧ a < (T : Int)) ∧ (0 ≤ i ∧ i ≤ 8) ∧ (v = 200000 ∨ (-10000 ≤ v ∧ v ≤ 10000))) ∧ r = some (vI (M (2 + 2 * a.toNat + 1) i.toNat)) ∧ M' = up2 (up2 M (2 + 2 * a.toNat + 1) i.toNat v) 0 6 1) ∨ (¬ ((0 ≤ a ∧ a < (T : Int)) ∧ (0 ≤ i ∧ i ≤ 8) ∧ (v = 200000 ∨ (-10000 ≤ v ∧ v ≤ 10000))) ∧ r = some (vI 300000) ∧ M' = M)) := by
  refine cmo [some (vR 0), some (vI a), some (vI i), some (vI v), none, none] ?_
  refine ev_iload_n dX5_read_0 rfl ?_
  refine ev_ldc (200000) kX5_68 dX5_read_1 (by decide) ?_
  refine ev_icmp_eq 19 dX5_read_3 (by omega) (by omega) (fun c3 => ?_) (fun c3 => ?_)
  · refine ev_iconst dX5_read_19 ?_
    refine ev_goto 24 dX5_read_20 ?_
    refine ev_istore dX5_read_24 (by decide) ?_
    refine ev_ls [some (vR _), some (vI _), some (vI _), some (vI _), some (vI _), none] rfl ?_
    refine ev_aload_n dX5_read_26 rfl ?_
    refine ev_iload_n dX5_read_27 rfl ?_
    refine em_V1 (c_isTrack l (by omega) (by omega)) mX5_69 dX5_read_28 lay_0 ?_
    rintro r M ⟨rfl, z28, rfl, h28⟩
    refine ev_if_eq 49 dX5_read_31 (by omega) (fun c31 => ?_) (fun c31 => ?_)
    · refine ev_ldc (300000) kX5_72 dX5_read_49 (by decide) ?_
      exact em_iret dX5_read_51 (Or.inr ⟨by omega, rfl, rfl⟩)
    · refine ev_iload_n dX5_read_34 rfl ?_
      refine ev_iconst dX5_read_35 ?_
      refine ev_bipush dX5_read_36 (by decide) ?_
      refine em_S3 (c_isWithin l _ (by omega) (by omega) (by omega)) mX5_57 dX5_read_38 ?_
      rintro r M ⟨rfl, z38, rfl, h38⟩
      refine ev_if_eq 49 dX5_read_41 (by omega) (fun c41 => ?_) (fun c41 => ?_)
      · refine ev_ldc (300000) kX5_72 dX5_read_49 (by decide) ?_
        exact em_iret dX5_read_51 (Or.inr ⟨by omega, rfl, rfl⟩)
      · refine ev_iload dX5_read_44 rfl ?_
        refine ev_if_ne 52 dX5_read_46 (by omega) (fun c46 => ?_) (fun c46 => ?_)
        · obtain ⟨t, rfl⟩ : ∃ t : Nat, a = (t : Int) := ⟨a.toNat, by omega⟩
          obtain ⟨k, rfl⟩ : ∃ k : Nat, i = (k : Int) := ⟨i.toNat, by omega⟩
          refine ev_aload_n dX5_read_52 rfl ?_
          refine em_getR fX5_11.g dX5_read_53 lay_0 rfl ?_
          refine ev_iload_n dX5_read_56 rfl ?_
          refine en_trk t dX5_read_57 (by omega) (by omega) ?_
          refine em_getR fX5_73 dX5_read_58 (lay_trk (i := t) (by omega)) rfl ?_
          refine ev_iload_n dX5_read_61 rfl ?_
          refine en_iald k dX5_read_62 (lay_hts (i := t) (by omega)) (by omega) (by omega) ?_
          refine ev_istore dX5_read_63 (by decide) ?_
          refine ev_ls [some (vR _), some (vI _), some (vI _), some (vI _), some (vI _), some (vI _)] rfl ?_
          refine ev_aload_n dX5_read_65 rfl ?_
          refine em_getR fX5_11.g dX5_read_66 lay_0 rfl ?_
          refine ev_iload_n dX5_read_69 rfl ?_
          refine en_trk t dX5_read_70 (by omega) (by omega) ?_
          refine em_getR fX5_73 dX5_read_71 (lay_trk (i := t) (by omega)) rfl ?_
          refine ev_iload_n dX5_read_74 rfl ?_
          refine ev_iload_n dX5_read_75 rfl ?_
          refine en_iast k dX5_read_76 (lay_hts (i := t) (by omega)) (by omega) (by omega) ?_
          refine ev_aload_n dX5_read_77 rfl ?_
          refine ev_iconst dX5_read_78 ?_
          refine em_putZ fX5_48 dX5_read_79 lay_0 rfl (by omega) ?_
          refine ev_iload dX5_read_82 rfl ?_
          exact em_iret dX5_read_84 (Or.inl ⟨by omega, rfl, rfl⟩)
        · refine ev_ldc (300000) kX5_72 dX5_read_49 (by decide) ?_
          exact em_iret dX5_read_51 (Or.inr ⟨by omega, rfl, rfl⟩)
  · refine ev_iload_n dX5_read_6 rfl ?_
    refine ev_sipush dX5_read_7 (by decide) ?_
    refine ev_sipush dX5_read_10 (by decide) ?_
    refine em_S3 (c_isWithin l _ (by omega) (by omega) (by omega)) mX5_57 dX5_read_13 ?_
    rintro r M ⟨rfl, z13, rfl, h13⟩
    refine ev_if_eq 23 dX5_read_16 (by omega) (fun c16 => ?_) (fun c16 => ?_)
    · refine ev_iconst dX5_read_23 ?_
      refine ev_istore dX5_read_24 (by decide) ?_
      refine ev_ls [some (vR _), some (vI _), some (vI _), some (vI _), some (vI _), none] rfl ?_
      refine ev_aload_n dX5_read_26 rfl ?_
      refine ev_iload_n dX5_read_27 rfl ?_
      refine em_V1 (c_isTrack l (by omega) (by omega)) mX5_69 dX5_read_28 lay_0 ?_
      rintro r M ⟨rfl, z28, rfl, h28⟩
      refine ev_if_eq 49 dX5_read_31 (by omega) (fun c31 => ?_) (fun c31 => ?_)
      · refine ev_ldc (300000) kX5_72 dX5_read_49 (by decide) ?_
        exact em_iret dX5_read_51 (Or.inr ⟨by omega, rfl, rfl⟩)
      · refine ev_iload_n dX5_read_34 rfl ?_
        refine ev_iconst dX5_read_35 ?_
        refine ev_bipush dX5_read_36 (by decide) ?_
        refine em_S3 (c_isWithin l _ (by omega) (by omega) (by omega)) mX5_57 dX5_read_38 ?_
        rintro r M ⟨rfl, z38, rfl, h38⟩
        refine ev_if_eq 49 dX5_read_41 (by omega) (fun c41 => ?_) (fun c41 => ?_)
        · refine ev_ldc (300000) kX5_72 dX5_read_49 (by decide) ?_
          exact em_iret dX5_read_51 (Or.inr ⟨by omega, rfl, rfl⟩)
        · refine ev_iload dX5_read_44 rfl ?_
          refine ev_if_ne 52 dX5_read_46 (by omega) (fun c46 => ?_) (fun c46 => ?_)
          · exfalso; omega
          · refine ev_ldc (300000) kX5_72 dX5_read_49 (by decide) ?_
            exact em_iret dX5_read_51 (Or.inr ⟨by omega, rfl, rfl⟩)
    · refine ev_iconst dX5_read_19 ?_
      refine ev_goto 24 dX5_read_20 ?_
      refine ev_istore dX5_read_24 (by decide) ?_
      refine ev_ls [some (vR _), some (vI _), some (vI _), some (vI _), some (vI _), none] rfl ?_
      refine ev_aload_n dX5_read_26 rfl ?_
      refine ev_iload_n dX5_read_27 rfl ?_
      refine em_V1 (c_isTrack l (by omega) (by omega)) mX5_69 dX5_read_28 lay_0 ?_
      rintro r M ⟨rfl, z28, rfl, h28⟩
      refine ev_if_eq 49 dX5_read_31 (by omega) (fun c31 => ?_) (fun c31 => ?_)
      · refine ev_ldc (300000) kX5_72 dX5_read_49 (by decide) ?_
        exact em_iret dX5_read_51 (Or.inr ⟨by omega, rfl, rfl⟩)
      · refine ev_iload_n dX5_read_34 rfl ?_
        refine ev_iconst dX5_read_35 ?_
        refine ev_bipush dX5_read_36 (by decide) ?_
        refine em_S3 (c_isWithin l _ (by omega) (by omega) (by omega)) mX5_57 dX5_read_38 ?_
        rintro r M ⟨rfl, z38, rfl, h38⟩
        refine ev_if_eq 49 dX5_read_41 (by omega) (fun c41 => ?_) (fun c41 => ?_)
        · refine ev_ldc (300000) kX5_72 dX5_read_49 (by decide) ?_
          exact em_iret dX5_read_51 (Or.inr ⟨by omega, rfl, rfl⟩)
        · refine ev_iload dX5_read_44 rfl ?_
          refine ev_if_ne 52 dX5_read_46 (by omega) (fun c46 => ?_) (fun c46 => ?_)
          · obtain ⟨t, rfl⟩ : ∃ t : Nat, a = (t : Int) := ⟨a.toNat, by omega⟩
            obtain ⟨k, rfl⟩ : ∃ k : Nat, i = (k : Int) := ⟨i.toNat, by omega⟩
            refine ev_aload_n dX5_read_52 rfl ?_
            refine em_getR fX5_11.g dX5_read_53 lay_0 rfl ?_
            refine ev_iload_n dX5_read_56 rfl ?_
            refine en_trk t dX5_read_57 (by omega) (by omega) ?_
            refine em_getR fX5_73 dX5_read_58 (lay_trk (i := t) (by omega)) rfl ?_
            refine ev_iload_n dX5_read_61 rfl ?_
            refine en_iald k dX5_read_62 (lay_hts (i := t) (by omega)) (by omega) (by omega) ?_
            refine ev_istore dX5_read_63 (by decide) ?_
            refine ev_ls [some (vR _), some (vI _), some (vI _), some (vI _), some (vI _), some (vI _)] rfl ?_
            refine ev_aload_n dX5_read_65 rfl ?_
            refine em_getR fX5_11.g dX5_read_66 lay_0 rfl ?_
            refine ev_iload_n dX5_read_69 rfl ?_
            refine en_trk t dX5_read_70 (by omega) (by omega) ?_
            refine em_getR fX5_73 dX5_read_71 (lay_trk (i := t) (by omega)) rfl ?_
            refine ev_iload_n dX5_read_74 rfl ?_
            refine ev_iload_n dX5_read_75 rfl ?_
            refine en_iast k dX5_read_76 (lay_hts (i := t) (by omega)) (by omega) (by omega) ?_
            refine ev_aload_n dX5_read_77 rfl ?_
            refine ev_iconst dX5_read_78 ?_
            refine em_putZ fX5_48 dX5_read_79 lay_0 rfl (by omega) ?_
            refine ev_iload dX5_read_82 rfl ?_
            exact em_iret dX5_read_84 (Or.inl ⟨by omega, rfl, rfl⟩)
          · refine ev_ldc (300000) kX5_72 dX5_read_49 (by decide) ?_
            exact em_iret dX5_read_51 (Or.inr ⟨by omega, rfl, rfl⟩)
set_option maxRecDepth 100000 in
set_option maxHeartbeats 4000000 in
theorem d_read (l : Launch) {M : Mem} {T : Nat} (h8 : T ≤ 8) (hT : M 53 0 = (T : Int)) {a i v : Int} (ha : i32 a) (hi : i32 i) (hv : i32 v) : Cm l yX6_read cX6_read 5 (some .int) 2 46 [vR 53, vI a, vI i, vI v] M (fun r M' => (((0 ≤ a ∧ a < (T : Int)) ∧ (0 ≤ i ∧ i ≤ 8) ∧ (v = 200000 ∨ (-10000 ≤ v ∧ v ≤ 10000))) ∧ r = some (vI (M 55 (9 * a.toNat + i.toNat))) ∧ M' = up2 M 55 (9 * a.toNat + i.toNat) v) ∨ (¬ ((0 ≤ a ∧ a < (T : Int)) ∧ (0 ≤ i ∧ i ≤ 8) ∧ (v = 200000 ∨ (-10000 ≤ v ∧ v ≤ 10000))) ∧ r = some (vI 300000) ∧ M' = M)) := by
  refine cmo [some (vR 53), some (vI a), some (vI i), some (vI v), none] ?_
  refine ev_aload_n dX6_read_0 rfl ?_
  refine ev_iload_n dX6_read_1 rfl ?_
  refine em_V1 (d_isTrack l (by omega) (by omega)) mX6_58 dX6_read_2 lay_53 ?_
  rintro r M ⟨rfl, z2, rfl, h2⟩
  refine ev_if_eq 40 dX6_read_5 (by omega) (fun c5 => ?_) (fun c5 => ?_)
  · refine ev_ldc (300000) kX6_68 dX6_read_40 (by decide) ?_
    exact em_iret dX6_read_42 (Or.inr ⟨by omega, rfl, rfl⟩)
  · refine ev_iload_n dX6_read_8 rfl ?_
    refine ev_i2l dX6_read_9 (by omega) ?_
    refine ev_lconst0 dX6_read_10 ?_
    refine ev_ldc2 (8) kX6_62 dX6_read_11 (by decide) ?_
    refine em_S3 (d_in l _ (by omega) (by omega) (by omega)) mX6_44 dX6_read_14 ?_
    rintro r M ⟨rfl, z14, rfl, h14⟩
    refine ev_if_eq 40 dX6_read_17 (by omega) (fun c17 => ?_) (fun c17 => ?_)
    · refine ev_ldc (300000) kX6_68 dX6_read_40 (by decide) ?_
      exact em_iret dX6_read_42 (Or.inr ⟨by omega, rfl, rfl⟩)
    · refine ev_iload_n dX6_read_20 rfl ?_
      refine ev_i2l dX6_read_21 (by omega) ?_
      refine ev_ldc2 (-10000) kX6_64 dX6_read_22 (by decide) ?_
      refine ev_ldc2 (10000) kX6_66 dX6_read_25 (by decide) ?_
      refine em_S3 (d_in l _ (by omega) (by omega) (by omega)) mX6_44 dX6_read_28 ?_
      rintro r M ⟨rfl, z28, rfl, h28⟩
      refine ev_if_ne 43 dX6_read_31 (by omega) (fun c31 => ?_) (fun c31 => ?_)
      · obtain ⟨t, rfl⟩ : ∃ t : Nat, a = (t : Int) := ⟨a.toNat, by omega⟩
        obtain ⟨k, rfl⟩ : ∃ k : Nat, i = (k : Int) := ⟨i.toNat, by omega⟩
        refine ev_aload_n dX6_read_43 rfl ?_
        refine em_getR fX6_13.g dX6_read_44 lay_53 rfl ?_
        refine ev_bipush dX6_read_47 (by decide) ?_
        refine ev_iload_n dX6_read_49 rfl ?_
        refine ev_imul dX6_read_50 ?_
        refine ev_iload_n dX6_read_51 rfl ?_
        refine ev_iadd dX6_read_52 ?_
        refine en_iald ((9 * t) + k) dX6_read_53 lay_55 (by omega) (by omega) ?_
        refine ev_istore dX6_read_54 (by decide) ?_
        refine ev_ls [some (vR _), some (vI _), some (vI _), some (vI _), some (vI _)] rfl ?_
        refine ev_aload_n dX6_read_56 rfl ?_
        refine em_getR fX6_13.g dX6_read_57 lay_53 rfl ?_
        refine ev_bipush dX6_read_60 (by decide) ?_
        refine ev_iload_n dX6_read_62 rfl ?_
        refine ev_imul dX6_read_63 ?_
        refine ev_iload_n dX6_read_64 rfl ?_
        refine ev_iadd dX6_read_65 ?_
        refine ev_iload_n dX6_read_66 rfl ?_
        refine en_iast ((9 * t) + k) dX6_read_67 lay_55 (by omega) (by omega) ?_
        refine ev_iload dX6_read_68 rfl ?_
        exact em_iret dX6_read_70 (Or.inl ⟨by omega, rfl, rfl⟩)
      · refine ev_iload_n dX6_read_34 rfl ?_
        refine ev_ldc (200000) kX6_39 dX6_read_35 (by decide) ?_
        refine ev_icmp_eq 43 dX6_read_37 (by omega) (by omega) (fun c37 => ?_) (fun c37 => ?_)
        · obtain ⟨t, rfl⟩ : ∃ t : Nat, a = (t : Int) := ⟨a.toNat, by omega⟩
          obtain ⟨k, rfl⟩ : ∃ k : Nat, i = (k : Int) := ⟨i.toNat, by omega⟩
          refine ev_aload_n dX6_read_43 rfl ?_
          refine em_getR fX6_13.g dX6_read_44 lay_53 rfl ?_
          refine ev_bipush dX6_read_47 (by decide) ?_
          refine ev_iload_n dX6_read_49 rfl ?_
          refine ev_imul dX6_read_50 ?_
          refine ev_iload_n dX6_read_51 rfl ?_
          refine ev_iadd dX6_read_52 ?_
          refine en_iald ((9 * t) + k) dX6_read_53 lay_55 (by omega) (by omega) ?_
          refine ev_istore dX6_read_54 (by decide) ?_
          refine ev_ls [some (vR _), some (vI _), some (vI _), some (vI _), some (vI _)] rfl ?_
          refine ev_aload_n dX6_read_56 rfl ?_
          refine em_getR fX6_13.g dX6_read_57 lay_53 rfl ?_
          refine ev_bipush dX6_read_60 (by decide) ?_
          refine ev_iload_n dX6_read_62 rfl ?_
          refine ev_imul dX6_read_63 ?_
          refine ev_iload_n dX6_read_64 rfl ?_
          refine ev_iadd dX6_read_65 ?_
          refine ev_iload_n dX6_read_66 rfl ?_
          refine en_iast ((9 * t) + k) dX6_read_67 lay_55 (by omega) (by omega) ?_
          refine ev_iload dX6_read_68 rfl ?_
          exact em_iret dX6_read_70 (Or.inl ⟨by omega, rfl, rfl⟩)
        · refine ev_ldc (300000) kX6_68 dX6_read_40 (by decide) ?_
          exact em_iret dX6_read_42 (Or.inr ⟨by omega, rfl, rfl⟩)
set_option maxRecDepth 100000 in
set_option maxHeartbeats 4000000 in
theorem c_hold (l : Launch) {M : Mem} {T : Nat} (h8 : T ≤ 8) (h5 : M 0 5 = (T : Int)) (hh : ∀ t, t < T → M (2 + 2 * t) 6 = 0 ∨ M (2 + 2 * t) 6 = 1) {a b : Int} (ha : i32 a) (hb : b = 0 ∨ b = 1) : Cm l yX5_hold cX5_hold 4 (some .int) 1 21 [vR 0, vI a, vI b] M (fun r M' => ((0 ≤ a ∧ a < (T : Int)) ∧ r = some (vI (if M (2 + 2 * a.toNat) 6 = 0 then 0 else 1)) ∧ M' = up2 (up2 M (2 + 2 * a.toNat) 6 b) 0 6 1) ∨ (¬ (0 ≤ a ∧ a < (T : Int)) ∧ r = some (vI (-1)) ∧ M' = M)) := by
  refine cmo [some (vR 0), some (vI a), some (vI b), none] ?_
  refine ev_aload_n dX5_hold_0 rfl ?_
  refine ev_iload_n dX5_hold_1 rfl ?_
  refine em_V1 (c_isTrack l (by omega) (by omega)) mX5_69 dX5_hold_2 lay_0 ?_
  rintro r M ⟨rfl, z2, rfl, h2⟩
  refine ev_if_ne 10 dX5_hold_5 (by omega) (fun c5 => ?_) (fun c5 => ?_)
  · obtain ⟨t, rfl⟩ : ∃ t : Nat, a = (t : Int) := ⟨a.toNat, by omega⟩
    have hht := hh t (by omega)
    refine ev_aload_n dX5_hold_10 rfl ?_
    refine em_getR fX5_11.g dX5_hold_11 lay_0 rfl ?_
    refine ev_iload_n dX5_hold_14 rfl ?_
    refine en_trk t dX5_hold_15 (by omega) (by omega) ?_
    refine em_getI fX5_77.g dX5_hold_16 (lay_trk (i := t) (by omega)) rfl ?_
    refine ev_istore_n dX5_hold_19 (by decide) ?_
    refine ev_ls [some (vR _), some (vI _), some (vI _), some (vI _)] rfl ?_
    refine ev_aload_n dX5_hold_20 rfl ?_
    refine em_getR fX5_11.g dX5_hold_21 lay_0 rfl ?_
    refine ev_iload_n dX5_hold_24 rfl ?_
    refine en_trk t dX5_hold_25 (by omega) (by omega) ?_
    refine ev_iload_n dX5_hold_26 rfl ?_
    refine em_putZ fX5_77 dX5_hold_27 (lay_trk (i := t) (by omega)) rfl (by omega) ?_
    refine ev_aload_n dX5_hold_30 rfl ?_
    refine ev_iconst dX5_hold_31 ?_
    refine em_putZ fX5_48 dX5_hold_32 lay_0 rfl (by omega) ?_
    refine ev_iload_n dX5_hold_35 rfl ?_
    refine ev_if_eq 43 dX5_hold_36 (by omega) (fun c36 => ?_) (fun c36 => ?_)
    · refine ev_iconst dX5_hold_43 ?_
      exact em_iret dX5_hold_44 (Or.inl ⟨by omega, by rw [Int.toNat_natCast]; first | rw [if_pos (by omega)] | rw [if_neg (by omega)], rfl⟩)
    · refine ev_iconst dX5_hold_39 ?_
      refine ev_goto 44 dX5_hold_40 ?_
      exact em_iret dX5_hold_44 (Or.inl ⟨by omega, by rw [Int.toNat_natCast]; first | rw [if_pos (by omega)] | rw [if_neg (by omega)], rfl⟩)
  · refine ev_iconst dX5_hold_8 ?_
    exact em_iret dX5_hold_9 (Or.inr ⟨by omega, rfl, rfl⟩)
set_option maxRecDepth 100000 in
set_option maxHeartbeats 4000000 in
theorem d_hold (l : Launch) {M : Mem} {T : Nat} (h8 : T ≤ 8) (hT : M 53 0 = (T : Int)) (hh : ∀ t, t < T → M 56 t = 0 ∨ M 56 t = 1) {a b : Int} (ha : i32 a) (hb : b = 0 ∨ b = 1) : Cm l yX6_hold cX6_hold 4 (some .int) 2 46 [vR 53, vI a, vI b] M (fun r M' => ((0 ≤ a ∧ a < (T : Int)) ∧ r = some (vI (if M 56 a.toNat = 0 then 0 else 1)) ∧ M' = up2 M 56 a.toNat b) ∨ (¬ (0 ≤ a ∧ a < (T : Int)) ∧ r = some (vI (-1)) ∧ M' = M)) := by
  refine cmo [some (vR 53), some (vI a), some (vI b), none] ?_
  refine ev_aload_n dX6_hold_0 rfl ?_
  refine ev_iload_n dX6_hold_1 rfl ?_
  refine em_V1 (d_isTrack l (by omega) (by omega)) mX6_58 dX6_hold_2 lay_53 ?_
  rintro r M ⟨rfl, z2, rfl, h2⟩
  refine ev_if_ne 10 dX6_hold_5 (by omega) (fun c5 => ?_) (fun c5 => ?_)
  · obtain ⟨t, rfl⟩ : ∃ t : Nat, a = (t : Int) := ⟨a.toNat, by omega⟩
    have hht := hh t (by omega)
    refine ev_aload_n dX6_hold_10 rfl ?_
    refine em_getR fX6_16.g dX6_hold_11 lay_53 rfl ?_
    refine ev_iload_n dX6_hold_14 rfl ?_
    refine en_zald t dX6_hold_15 lay_56 (by omega) (by omega) ?_
    refine ev_if_eq 23 dX6_hold_16 (by omega) (fun c16 => ?_) (fun c16 => ?_)
    · refine ev_iconst dX6_hold_23 ?_
      refine ev_istore_n dX6_hold_24 (by decide) ?_
      refine ev_ls [some (vR _), some (vI _), some (vI _), some (vI _)] rfl ?_
      refine ev_aload_n dX6_hold_25 rfl ?_
      refine em_getR fX6_16.g dX6_hold_26 lay_53 rfl ?_
      refine ev_iload_n dX6_hold_29 rfl ?_
      refine ev_iload_n dX6_hold_30 rfl ?_
      refine en_zast t dX6_hold_31 lay_56 (by omega) (by omega) (by omega) ?_
      refine ev_iload_n dX6_hold_32 rfl ?_
      exact em_iret dX6_hold_33 (Or.inl ⟨by omega, by rw [Int.toNat_natCast]; first | rw [if_pos (by omega)] | rw [if_neg (by omega)], rfl⟩)
    · refine ev_iconst dX6_hold_19 ?_
      refine ev_goto 24 dX6_hold_20 ?_
      refine ev_istore_n dX6_hold_24 (by decide) ?_
      refine ev_ls [some (vR _), some (vI _), some (vI _), some (vI _)] rfl ?_
      refine ev_aload_n dX6_hold_25 rfl ?_
      refine em_getR fX6_16.g dX6_hold_26 lay_53 rfl ?_
      refine ev_iload_n dX6_hold_29 rfl ?_
      refine ev_iload_n dX6_hold_30 rfl ?_
      refine en_zast t dX6_hold_31 lay_56 (by omega) (by omega) (by omega) ?_
      refine ev_iload_n dX6_hold_32 rfl ?_
      exact em_iret dX6_hold_33 (Or.inl ⟨by omega, by rw [Int.toNat_natCast]; first | rw [if_pos (by omega)] | rw [if_neg (by omega)], rfl⟩)
  · refine ev_iconst dX6_hold_8 ?_
    exact em_iret dX6_hold_9 (Or.inr ⟨by omega, rfl, rfl⟩)
def fTone (N : Nat) (x : Int) : Int := if 1 ≤ x ∧ x ≤ 1000000 then (if N = 6 then -3 else (N : Int)) else -1
set_option maxRecDepth 100000 in
set_option maxHeartbeats 4000000 in
theorem c_tone (l : Launch) {M : Mem} {N : Nat} (h6 : N ≤ 6) (hN : M 50 1 = (N : Int)) {x : Int} (hx : i32 x) : Cm l yX5_tone cX5_tone 2 (some .int) 1 22 [vR 0, vI x] M (fun r M' => r = some (vI (fTone N x)) ∧ ((((1 ≤ x ∧ x ≤ 1000000) ∧ N < 6) ∧ M' = up2 (up2 M 51 N x) 50 1 ((N : Int) + 1)) ∨ (¬ ((1 ≤ x ∧ x ≤ 1000000) ∧ N < 6) ∧ M' = M))) := by
  refine cmo [some (vR 0), some (vI x)] ?_
  refine ev_iload_n dX5_tone_0 rfl ?_
  refine ev_iconst dX5_tone_1 ?_
  refine ev_ldc (1000000) kX5_56 dX5_tone_2 (by decide) ?_
  refine em_S3 (c_isWithin l _ (by omega) (by omega) (by omega)) mX5_57 dX5_tone_4 ?_
  rintro r M ⟨rfl, z4, rfl, h4⟩
  refine ev_if_ne 12 dX5_tone_7 (by omega) (fun c7 => ?_) (fun c7 => ?_)
  · refine ev_aload_n dX5_tone_12 rfl ?_
    refine em_getR fX5_33.g dX5_tone_13 lay_0 rfl ?_
    refine em_getI fX5_145.g dX5_tone_16 lay_50 rfl ?_
    refine ev_bipush dX5_tone_19 (by decide) ?_
    refine ev_icmp_lt 27 dX5_tone_21 (by omega) (by omega) (fun c21 => ?_) (fun c21 => ?_)
    · refine ev_aload_n dX5_tone_27 rfl ?_
      refine em_getR fX5_33.g dX5_tone_28 lay_0 rfl ?_
      refine em_getR fX5_148 dX5_tone_31 lay_50 rfl ?_
      refine ev_aload_n dX5_tone_34 rfl ?_
      refine em_getR fX5_33.g dX5_tone_35 lay_0 rfl ?_
      refine em_getI fX5_145.g dX5_tone_38 lay_50 rfl ?_
      rw [hN]
      refine ev_iload_n dX5_tone_41 rfl ?_
      refine en_iast N dX5_tone_42 lay_51 (by omega) (by omega) ?_
      refine ev_aload_n dX5_tone_43 rfl ?_
      refine em_getR fX5_33.g dX5_tone_44 lay_0 rfl ?_
      refine ev_dup_R dX5_tone_47 ?_
      refine em_getI fX5_145.g dX5_tone_48 lay_50 rfl ?_
      refine ev_iconst dX5_tone_51 ?_
      refine ev_iadd dX5_tone_52 ?_
      refine em_putI fX5_145 dX5_tone_53 lay_50 rfl ?_
      refine ev_aload_n dX5_tone_56 rfl ?_
      refine em_getR fX5_33.g dX5_tone_57 lay_0 rfl ?_
      refine em_getI fX5_145.g dX5_tone_60 lay_50 rfl ?_
      refine ev_iconst dX5_tone_63 ?_
      refine ev_isub dX5_tone_64 ?_
      refine em_iret dX5_tone_65 ⟨?_, Or.inl ⟨by omega, ?_⟩⟩
      · unfold fTone; rw [if_pos (by omega), if_neg (by omega)]
        simp [up2_at, hN]
      · simp only [up2_ne _ _ _ _ (Or.inl (show 50 ≠ 51 by omega)), hN]
    · refine ev_bipush dX5_tone_24 (by decide) ?_
      exact em_iret dX5_tone_26 ⟨by unfold fTone; rw [if_pos (by omega), if_pos (by omega)], Or.inr ⟨by omega, rfl⟩⟩
  · refine ev_iconst dX5_tone_10 ?_
    exact em_iret dX5_tone_11 ⟨by unfold fTone; rw [if_neg (by omega)], Or.inr ⟨by omega, rfl⟩⟩
set_option maxRecDepth 100000 in
set_option maxHeartbeats 4000000 in
theorem d_tone (l : Launch) {M : Mem} {N : Nat} (h6 : N ≤ 6) (hN : M 53 4 = (N : Int)) {x : Int} (hx : i32 x) : Cm l yX6_tone cX6_tone 2 (some .int) 1 25 [vR 53, vI x] M (fun r M' => r = some (vI (fTone N x)) ∧ ((((1 ≤ x ∧ x ≤ 1000000) ∧ N < 6) ∧ M' = up2 (up2 M 57 N x) 53 4 ((N : Int) + 1)) ∨ (¬ ((1 ≤ x ∧ x ≤ 1000000) ∧ N < 6) ∧ M' = M))) := by
  refine cmo [some (vR 53), some (vI x)] ?_
  refine ev_iload_n dX6_tone_0 rfl ?_
  refine ev_i2l dX6_tone_1 (by omega) ?_
  refine ev_lconst1 dX6_tone_2 ?_
  refine ev_ldc2 (1000000) kX6_56 dX6_tone_3 (by decide) ?_
  refine em_S3 (d_in l _ (by omega) (by omega) (by omega)) mX6_44 dX6_tone_6 ?_
  rintro r M ⟨rfl, z6, rfl, h6⟩
  refine ev_if_ne 14 dX6_tone_9 (by omega) (fun c9 => ?_) (fun c9 => ?_)
  · refine ev_aload_n dX6_tone_14 rfl ?_
    refine em_getI fX6_159.g dX6_tone_15 lay_53 rfl ?_
    refine ev_bipush dX6_tone_18 (by decide) ?_
    refine ev_icmp_ne 26 dX6_tone_20 (by omega) (by omega) (fun c20 => ?_) (fun c20 => ?_)
    · refine ev_aload_n dX6_tone_26 rfl ?_
      refine em_getR fX6_20.g dX6_tone_27 lay_53 rfl ?_
      refine ev_aload_n dX6_tone_30 rfl ?_
      refine em_getI fX6_159.g dX6_tone_31 lay_53 rfl ?_
      rw [hN]
      refine ev_iload_n dX6_tone_34 rfl ?_
      refine en_iast N dX6_tone_35 lay_57 (by omega) (by omega) ?_
      refine ev_aload_n dX6_tone_36 rfl ?_
      refine ev_dup_R dX6_tone_37 ?_
      refine em_getI fX6_159.g dX6_tone_38 lay_53 rfl ?_
      refine ev_iconst dX6_tone_41 ?_
      refine ev_iadd dX6_tone_42 ?_
      refine em_putI fX6_159 dX6_tone_43 lay_53 rfl ?_
      refine ev_aload_n dX6_tone_46 rfl ?_
      refine em_getI fX6_159.g dX6_tone_47 lay_53 rfl ?_
      refine ev_iconst dX6_tone_50 ?_
      refine ev_isub dX6_tone_51 ?_
      refine em_iret dX6_tone_52 ⟨?_, Or.inl ⟨by omega, ?_⟩⟩
      · unfold fTone; rw [if_pos (by omega), if_neg (by omega)]
        simp [up2_at, hN]
      · simp only [up2_ne _ _ _ _ (Or.inl (show 53 ≠ 57 by omega)), hN]
    · refine ev_bipush dX6_tone_23 (by decide) ?_
      exact em_iret dX6_tone_25 ⟨by unfold fTone; rw [if_pos (by omega), if_pos (by omega)], Or.inr ⟨by omega, rfl⟩⟩
  · refine ev_iconst dX6_tone_12 ?_
    exact em_iret dX6_tone_13 ⟨by unfold fTone; rw [if_neg (by omega)], Or.inr ⟨by omega, rfl⟩⟩
