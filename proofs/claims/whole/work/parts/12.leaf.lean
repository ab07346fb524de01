set_option maxRecDepth 100000 in
theorem c_isWithin (l : Launch) (M : Mem) {a b c : Int} (ha : i32 a) (hb : i32 b) (hc : i32 c) : Cm l yX5_isWithin cX5_isWithin 3 (some .boolean) 0 0 [vI a, vI b, vI c] M (rB (b ≤ a ∧ a ≤ c) M) := by
  refine cmo [some (vI a), some (vI b), some (vI c)] ?_
  refine ev_iload_n dX5_isWithin_0 rfl ?_
  refine ev_iload_n dX5_isWithin_1 rfl ?_
  refine ev_icmp_lt 14 dX5_isWithin_2 (by omega) (by omega) (fun c1 => ?_) (fun c1 => ?_)
  · refine ev_iconst dX5_isWithin_14 ?_
    exact em_zret dX5_isWithin_15 (Or.inl rfl) ⟨rfl, 0, rfl, Or.inl ⟨rfl, by omega⟩⟩
  · refine ev_iload_n dX5_isWithin_5 rfl ?_
    refine ev_iload_n dX5_isWithin_6 rfl ?_
    refine ev_icmp_gt 14 dX5_isWithin_7 (by omega) (by omega) (fun c2 => ?_) (fun c2 => ?_)
    · refine ev_iconst dX5_isWithin_14 ?_
      exact em_zret dX5_isWithin_15 (Or.inl rfl) ⟨rfl, 0, rfl, Or.inl ⟨rfl, by omega⟩⟩
    · refine ev_iconst dX5_isWithin_10 ?_
      refine ev_goto 15 dX5_isWithin_11 ?_
      exact em_zret dX5_isWithin_15 (Or.inr rfl) ⟨rfl, 1, rfl, Or.inr ⟨rfl, by omega⟩⟩
