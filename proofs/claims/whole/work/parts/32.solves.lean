def eN (M0 : Mem) (c : Nat → Nat) (g T : Nat) : Nat → Nat → Prop := fun p q => eD M0 (me c g T p) (me c g T q)
def wN (M0 : Mem) (c : Nat → Nat) (g T : Nat) : Nat → Nat → Int := fun p q => wD M0 (me c g T p) (me c g T q)
theorem wN_bd {M0 : Mem} {c : Nat → Nat} {g T : Nat} (hG : GT M0 T) : ∀ a b, a < b → b < (ml c g T).length → eN M0 c g T a b → -200000 ≤ wN M0 c g T a b ∧ wN M0 c g T a b ≤ 200000 :=
  fun a b hab hb he => wD_bd hG (me_in (show a < _ by omega)).1 (me_in hb).1 he
theorem add60 {M : Mem} {a b r k : Nat} {d : Int} (ha : a < 8) (hb : b < 8) (hr : r < 8) (hk : k < 8) : up2 M 60 (8 * r + k) (M 60 (8 * r + k) + d) 60 (8 * a + b) = M 60 (8 * a + b) + (if a = r ∧ b = k then d else 0) := by
  rw [up2_60 ha hb hr hk]
  by_cases q : a = r ∧ b = k
  · rw [if_pos q, if_pos q, q.1, q.2]
  · rw [if_neg q, if_neg q]; omega
theorem sub60 {M : Mem} {a b r k : Nat} {d : Int} (ha : a < 8) (hb : b < 8) (hr : r < 8) (hk : k < 8) : up2 M 60 (8 * r + k) (M 60 (8 * r + k) - d) 60 (8 * a + b) = M 60 (8 * a + b) - (if a = r ∧ b = k then d else 0) := by
  rw [up2_60 ha hb hr hk]
  by_cases q : a = r ∧ b = k
  · rw [if_pos q, if_pos q, q.1, q.2]
  · rw [if_neg q, if_neg q]; omega
theorem add60z {M : Mem} {a b r : Nat} {d : Int} (ha : a < 8) (hb : b < 8) (hr : r < 8) : up2 M 60 (8 * r) (M 60 (8 * r) + d) 60 (8 * a + b) = M 60 (8 * a + b) + (if a = r ∧ b = 0 then d else 0) := add60 (k := 0) ha hb hr (by omega)
theorem sub60z {M : Mem} {a b r : Nat} {d : Int} (ha : a < 8) (hb : b < 8) (hr : r < 8) : up2 M 60 (8 * r) (M 60 (8 * r) - d) 60 (8 * a + b) = M 60 (8 * a + b) - (if a = r ∧ b = 0 then d else 0) := sub60 (k := 0) ha hb hr (by omega)
/-- what solves leaves as it was -/
def FS (M M' : Mem) : Prop := (∀ k, k ≠ 53 → k ≠ 59 → k ≠ 60 → k ≠ 61 → k ≠ 62 → M' k = M k) ∧ (∀ f, f ≠ 6 → f ≠ 7 → f ≠ 8 → f ≠ 9 → f ≠ 10 → M' 53 f = M 53 f)
theorem FS.rf (M : Mem) : FS M M := ⟨fun _ _ _ _ _ _ => rfl, fun _ _ _ _ _ _ => rfl⟩
theorem FS.fr {M M' M'' : Mem} (h : FS M M') (h' : FR M' M'') : FS M M'' := ⟨fun k h1 h2 h3 h4 h5 => (h'.1 k h1).trans (h.1 k h1 h2 h3 h4 h5), fun f a b c d e => (h'.2 f a b c d e).trans (h.2 f a b c d e)⟩
theorem FS.up {M M' : Mem} (h : FS M M') {r : Nat} (hr : r = 59 ∨ r = 60 ∨ r = 61 ∨ r = 62) (k : Nat) (x : Int) : FS M (up2 M' r k x) := ⟨fun q h1 h2 h3 h4 h5 => by rw [up2_row _ _ _ _ (by omega), h.1 q h1 h2 h3 h4 h5], fun f a b c d e => by rw [up2_row _ _ _ _ (by omega)]; exact h.2 f a b c d e⟩
theorem FS.ch {M M' M'' : Mem} (h : FS M M') (h' : ∀ k, k ≠ 60 → k ≠ 61 → k ≠ 62 → M'' k = M' k) : FS M M'' := ⟨fun k h1 h2 h3 h4 h5 => (h' k h3 h4 h5).trans (h.1 k h1 h2 h3 h4 h5), fun f a b c d e => by rw [h' 53 (by omega) (by omega) (by omega)]; exact h.2 f a b c d e⟩
theorem FS.en {M0 M M' : Mem} (h : FS M M') (hE : EN M0 M) : EN M0 M' := hE.of (fun k hk => h.1 k (by omega) (by omega) (by omega) (by omega) (by omega))
theorem FS.n {M M' : Mem} (h : FS M M') : M' 53 0 = M 53 0 := h.2 0 (by omega) (by omega) (by omega) (by omega) (by omega)
theorem FS.net {M M' : Mem} (h : FS M M') : M' 58 = M 58 := h.1 58 (by omega) (by omega) (by omega) (by omega) (by omega)
/-- the matrix while pairs are taken: rows i done, row i up to j -/
noncomputable def PM (e : Nat → Nat → Prop) (w : Nat → Nat → Int) (n i j a b : Nat) : Int := sm i (fun p => sm n (fun q => if p < q then kM e w a b p q else 0)) + sm j (fun q => if i < q then kM e w a b i q else 0)
theorem PM_next {e : Nat → Nat → Prop} {w : Nat → Nat → Int} {n i j a b : Nat} (h : i < j) : PM e w n i j a b + kM e w a b i j = PM e w n i (j + 1) a b := by
  unfold PM
  rw [Int.add_assoc, smS (n := j) (f := fun q => if i < q then kM e w a b i q else 0) (if_pos h)]
theorem PM_start {e : Nat → Nat → Prop} {w : Nat → Nat → Int} {n i a b : Nat} : PM e w n i (i + 1) a b = sm i (fun p => sm n (fun q => if p < q then kM e w a b p q else 0)) := by
  unfold PM
  rw [sm_zero (f := fun q => if i < q then kM e w a b i q else 0) (fun q hq => if_neg (by omega)), Int.add_zero]
theorem PM_end {e : Nat → Nat → Prop} {w : Nat → Nat → Int} {n i a b : Nat} : PM e w n i n a b = sm (i + 1) (fun p => sm n (fun q => if p < q then kM e w a b p q else 0)) := rfl
set_option maxRecDepth 100000 in
set_option maxHeartbeats 4000000 in
theorem d_solves (l : Launch) {M0 M : Mem} {T n g : Nat} {c : Nat → Nat} (hE : EN M0 M) (hG : GT M0 T) (hT : M 53 0 = (T : Int)) (hc : Lab (eD M0) T c) (hv : ∀ t, t < T → M 58 t = (c t : Int)) (hg : g < T) (hlen : (ml c g T).length = n + 1) : Cm l yX6_solves cX6_solves 6 none 3 84 [vR 53, vI (g : Int)] M (fun r M' => r = none ∧ FS M M' ∧ (∀ i, i < n + 1 → M' 61 (me c g T i) = Xo (eN M0 c g T) (wN M0 c g T) n 1 i ∧ M' 62 (me c g T i) = Do (eN M0 c g T) n 1) ∧ ∀ t, (∀ i, i < n + 1 → me c g T i ≠ t) → M' 61 t = M 61 t ∧ M' 62 t = M 62 t) := by
  refine cmo [some (vR 53), some (vI (g : Int)), none, none, none, none] ?_
  have h8 := hG.1
  have hml := ml_len c g T
  have gather : ∀ (m1 : Nat) (t : Nat) (M1 : Mem), T < t + m1 → t ≤ T → (∀ k, k ≠ 59 → M1 k = M k) → (∀ i, i < (ml c g t).length → M1 59 i = (me c g t i : Int)) → Em l yX6_solves cX6_solves 6 none 3 84 (fun r M' => r = none ∧ FS M M' ∧ (∀ i, i < n + 1 → M' 61 (me c g T i) = Xo (eN M0 c g T) (wN M0 c g T) n 1 i ∧ M' 62 (me c g T i) = Do (eN M0 c g T) n 1) ∧ ∀ t, (∀ i, i < n + 1 → me c g T i ≠ t) → M' 61 t = M 61 t ∧ M' 62 t = M 62 t) 4 [some (vR 53), some (vI (g : Int)), some (vI (((ml c g t).length : Nat) : Int)), some (vI (t : Int)), none, none] [] M1 := by
    intro m1
    induction m1 with
    | zero => intro t M1 h1 h2 hk1 hm1; omega
    | succ m1 ihgather =>
      intro t M1 h1 h2 hk1 hm1
      have hN : M1 53 0 = (T : Int) := by rw [hk1 53 (by omega)]; exact hT
      have h58 : M1 58 = M 58 := hk1 58 (by omega)
      have hlt := ml_len c g t
      refine ev_iload_n dX6_solves_4 rfl ?_
      refine ev_aload_n dX6_solves_5 rfl ?_
      refine em_getI fX6_40.g dX6_solves_6 lay_53 rfl ?_
      refine ev_icmp_ge 38 dX6_solves_9 (by omega) (by omega) (fun c1 => ?_) (fun c1 => ?_)
      · have et : T = t := by omega
        subst et
        rw [hlen] at hm1
        rw [hlen]
        have zero : ∀ (m2 : Nat) (z : Nat) (M2 : Mem), 64 < z + m2 → z ≤ 64 → FS M M2 → (∀ q, q < z → M2 60 q = 0) → (∀ i, i < n + 1 → M2 59 i = (me c g T i : Int)) → (M2 61 = M 61 ∧ M2 62 = M 62) → Em l yX6_solves cX6_solves 6 none 3 84 (fun r M' => r = none ∧ FS M M' ∧ (∀ i, i < n + 1 → M' 61 (me c g T i) = Xo (eN M0 c g T) (wN M0 c g T) n 1 i ∧ M' 62 (me c g T i) = Do (eN M0 c g T) n 1) ∧ ∀ t, (∀ i, i < n + 1 → me c g T i ≠ t) → M' 61 t = M 61 t ∧ M' 62 t = M 62 t) 40 [some (vR 53), some (vI (g : Int)), some (vI ((n + 1 : Nat) : Int)), some (vI (z : Int)), none, none] [] M2 := by
          intro m2
          induction m2 with
          | zero => intro z M2 h3 h4 hF2 hz2 h59a ho2; omega
          | succ m2 ihzero =>
            intro z M2 h3 h4 hF2 hz2 h59a ho2
            refine ev_iload_n dX6_solves_40 rfl ?_
            refine ev_bipush dX6_solves_41 (by decide) ?_
            refine ev_icmp_ge 59 dX6_solves_43 (by omega) (by omega) (fun c2 => ?_) (fun c2 => ?_)
            · have rows : ∀ (m3 : Nat) (i : Nat) (M3 : Mem), n + 1 < i + m3 → i ≤ n + 1 → FS M M3 → (∀ a b, a < 8 → b < 8 → M3 60 (8 * a + b) = sm i (fun p => sm (n + 1) (fun q => if p < q then kM (eN M0 c g T) (wN M0 c g T) a b p q else 0))) → (∀ i, i < n + 1 → M3 59 i = (me c g T i : Int)) → (M3 61 = M 61 ∧ M3 62 = M 62) → Em l yX6_solves cX6_solves 6 none 3 84 (fun r M' => r = none ∧ FS M M' ∧ (∀ i, i < n + 1 → M' 61 (me c g T i) = Xo (eN M0 c g T) (wN M0 c g T) n 1 i ∧ M' 62 (me c g T i) = Do (eN M0 c g T) n 1) ∧ ∀ t, (∀ i, i < n + 1 → me c g T i ≠ t) → M' 61 t = M 61 t ∧ M' 62 t = M 62 t) 61 [some (vR 53), some (vI (g : Int)), some (vI ((n + 1 : Nat) : Int)), some (vI (i : Int)), none, none] [] M3 := by
                intro m3
                induction m3 with
                | zero => intro i M3 h5 h6 hF3 hm3 h59 ho3; omega
                | succ m3 ihrows =>
                  intro i M3 h5 h6 hF3 hm3 h59 ho3
                  refine ev_iload_n dX6_solves_61 rfl ?_
                  refine ev_iload_n dX6_solves_62 rfl ?_
                  refine ev_icmp_ge 222 dX6_solves_63 (by omega) (by omega) (fun c3 => ?_) (fun c3 => ?_)
                  · have ei : n + 1 = i := by omega
                    subst ei
                    have hC : Cn (eN M0 c g T) (n + 1) := by rw [← hlen]; exact me_Cn hc g
                    have hA : MM n (Ao (eN M0 c g T) n 1) := La_MM hC (by omega) (by omega)
                    have hw : ∀ a b, a < b → b < n + 1 → (eN M0 c g T) a b → -200000 ≤ (wN M0 c g T) a b ∧ (wN M0 c g T) a b ≤ 200000 := by rw [← hlen]; exact wN_bd hG
                    have hbB : ∀ q, q < n → -1400000 ≤ (bo (eN M0 c g T) (wN M0 c g T) n 1) q ∧ (bo (eN M0 c g T) (wN M0 c g T) n 1) q ≤ 1400000 := fun q hq => bb_bd (by omega) hw (by omega)
                    have elim : ∀ (m4 : Nat) (k : Nat) (M4 : Mem), n + 1 < k + m4 → k ≤ n + 1 → 1 ≤ k → FS M M4 → (∀ r q, 1 ≤ r → r < n + 1 → q < n + 1 → (q = 0 ∨ min r k ≤ q) → M4 60 (8 * r + q) = Ss (min r k - 1) (Ao (eN M0 c g T) n 1) (r - 1) (if q = 0 then (bo (eN M0 c g T) (wN M0 c g T) n 1) else col (Ao (eN M0 c g T) n 1) (q - 1))) → (∀ i, i < n + 1 → M4 59 i = (me c g T i : Int)) → (M4 61 = M 61 ∧ M4 62 = M 62) → Em l yX6_solves cX6_solves 6 none 3 84 (fun r M' => r = none ∧ FS M M' ∧ (∀ i, i < n + 1 → M' 61 (me c g T i) = Xo (eN M0 c g T) (wN M0 c g T) n 1 i ∧ M' 62 (me c g T i) = Do (eN M0 c g T) n 1) ∧ ∀ t, (∀ i, i < n + 1 → me c g T i ≠ t) → M' 61 t = M 61 t ∧ M' 62 t = M 62 t) 227 [some (vR 53), some (vI (g : Int)), some (vI ((n + 1 : Nat) : Int)), some (vL (dt (k - 1) (Ao (eN M0 c g T) n 1))), none, some (vI (k : Int))] [] M4 := by
                      intro m4
                      induction m4 with
                      | zero => intro k M4 h9 h10 h11 hF4 hm4 h59d ho4; omega
                      | succ m4 ihelim =>
                        intro k M4 h9 h10 h11 hF4 hm4 h59d ho4
                        refine ev_iload dX6_solves_227 rfl ?_
                        refine ev_iload_n dX6_solves_229 rfl ?_
                        refine ev_icmp_ge 261 dX6_solves_230 (by omega) (by omega) (fun c4 => ?_) (fun c4 => ?_)
                        · have ec : n + 1 = k := by omega
                          subst ec
                          have hrows : ∀ r q, 1 ≤ r → r < n + 1 → q < n + 1 → (q = 0 ∨ r ≤ q) → M4 60 (8 * r + q) = mR (eN M0 c g T) (wN M0 c g T) n r q := fun r q h1 h2 h3 h4 => by rw [hm4 r q h1 h2 h3 (by omega), show min r (n + 1) - 1 = r - 1 by omega]; rfl
                          have hdt : dt (n + 1 - 1) (Ao (eN M0 c g T) n 1) = Do (eN M0 c g T) n 1 := rfl
                          rw [hdt]
                          refine ev_aload_n dX6_solves_261 rfl ?_
                          refine ev_iload_n dX6_solves_262 rfl ?_
                          refine ev_lload_n dX6_solves_263 rfl ?_
                          refine em_V2 (d_backs l (n := n + 1) (mem := me c g T) (X := Xo (eN M0 c g T) (wN M0 c g T) n 1) (by omega) (by omega) (fun i hi => ⟨h59d i hi, by have := (me_in (c := c) (g := g) (T := T) (i := i) (by omega)).1; omega⟩) (fun i j hi hj he => me_inj (by omega) (by omega) he) (Xo_gr _ _ n 1) (fun r h1 h2 => by have hb := mR_back hC (by omega) hw h1 h2; have e0 := hrows r 0 h1 h2 (by omega) (Or.inl rfl); rw [show 8 * r + 0 = 8 * r from rfl] at e0; rw [e0, hrows r r h1 h2 h2 (Or.inr (Nat.le_refl r)), sm_congr (fun q hq => show (if r < q then M4 60 (8 * r + q) * Xo (eN M0 c g T) (wN M0 c g T) n 1 q else 0) = (if r < q then mR (eN M0 c g T) (wN M0 c g T) n r q * Xo (eN M0 c g T) (wN M0 c g T) n 1 q else 0) by by_cases q1 : r < q; (rw [if_pos q1, if_pos q1, hrows r q h1 h2 hq (Or.inr (by omega))]); (rw [if_neg q1, if_neg q1]))]; exact hb)) mX6_133 dX6_solves_264 lay_53 ?_
                          rintro r M5 ⟨rfl, k264, x264, o264⟩
                          exact em_vret dX6_solves_267 ⟨rfl, hF4.ch (fun q _ h2 h3 => k264 q h2 h3), x264, fun t ht => ⟨by rw [(o264 t ht).1, ho4.1], by rw [(o264 t ht).2, ho4.2]⟩⟩
                        · have hDp := D_pos hA (show k - 1 ≤ n by omega)
                          have hDl := D_le hA (k - 1) (by omega)
                          have hD7 := p7' (show k - 1 ≤ 7 by omega)
                          have hRk : ∀ r q, k ≤ r → r < n + 1 → q < n + 1 → (q = 0 ∨ k ≤ q) → M4 60 (8 * r + q) = Rk (Ao (eN M0 c g T) n 1) (k - 1) (r - 1) (cv (Ao (eN M0 c g T) n 1) (bo (eN M0 c g T) (wN M0 c g T) n 1) n (if q = 0 then n else q - 1)) := fun r q h1 h2 h3 h4 => by rw [hm4 r q (by omega) h2 h3 (by omega), show min r k - 1 = k - 1 by omega]; unfold Rk; rw [if_neg (show ¬ r - 1 < k - 1 by omega)]; congr 1; by_cases q1 : q = 0; (subst q1; rw [if_pos rfl, if_pos rfl]; unfold cv; rw [if_neg (by omega)]); (rw [if_neg q1, if_neg q1]; unfold cv; rw [if_pos (by omega)])
                          have hcol : ∀ r, k ≤ r → r < n + 1 → M4 60 (8 * r + k) = Rk (Ao (eN M0 c g T) n 1) (k - 1) (r - 1) (col (Ao (eN M0 c g T) n 1) (k - 1)) := fun r h1 h2 => by rw [hRk r k h1 h2 (by omega) (Or.inr (Nat.le_refl k)), if_neg (by omega)]; unfold cv; rw [if_pos (by omega)]
                          have hnum : ∀ r q, k < r → r < n + 1 → q < n + 1 → (q = 0 ∨ k ≤ q) → i64 (M4 60 (8 * r + q) * M4 60 (8 * k + k) - M4 60 (8 * r + k) * M4 60 (8 * k + q)) ∧ (M4 60 (8 * r + q) * M4 60 (8 * k + k) - M4 60 (8 * r + k) * M4 60 (8 * k + q)).tdiv (dt (k - 1) (Ao (eN M0 c g T) n 1)) = Rk (Ao (eN M0 c g T) n 1) k (r - 1) (cv (Ao (eN M0 c g T) n 1) (bo (eN M0 c g T) (wN M0 c g T) n 1) n (if q = 0 then n else q - 1)) := fun r q h1 h2 h3 h4 => by have := Rk_num hA (show n ≤ 7 by omega) hbB (k := k - 1) (r := r - 1) (by omega) (by omega) (by omega) (if q = 0 then n else q - 1); rw [show k - 1 + 1 = k by omega] at this; rw [hRk r q (by omega) h2 h3 h4, hRk k q (Nat.le_refl k) (by omega) h3 h4, hcol k (Nat.le_refl k) (by omega), hcol r (by omega) h2, Int.mul_comm (Rk (Ao (eN M0 c g T) n 1) (k - 1) (r - 1) (cv (Ao (eN M0 c g T) n 1) (bo (eN M0 c g T) (wN M0 c g T) n 1) n (if q = 0 then n else q - 1)))]; exact this
                          refine ev_aload_n dX6_solves_233 rfl ?_
                          refine ev_iload dX6_solves_234 rfl ?_
                          refine ev_iload_n dX6_solves_236 rfl ?_
                          refine ev_lload_n dX6_solves_237 rfl ?_
                          refine em_V3 (d_clears l (c := k) (n := n + 1) (by omega) (by omega) (by omega) (by omega) (fun r q h1 h2 h3 h4 => (hnum r q h1 h2 h3 h4).1)) mX6_129 dX6_solves_238 lay_53 ?_
                          rintro r M5 ⟨rfl, k238, m238⟩
                          refine ev_aload_n dX6_solves_241 rfl ?_
                          refine em_getR fX6_29.g dX6_solves_242 lay_53 rfl ?_
                          refine ev_bipush dX6_solves_245 (by decide) ?_
                          refine ev_iload dX6_solves_247 rfl ?_
                          refine ev_imul dX6_solves_249 ?_
                          refine ev_iload dX6_solves_250 rfl ?_
                          refine ev_iadd dX6_solves_252 ?_
                          refine en_lald ((8 * k) + k) dX6_solves_253 lay_60 (by omega) (by omega) ?_
                          have hpv : M5 60 (8 * k + k) = dt k (Ao (eN M0 c g T) n 1) := by rw [m238 k k (by omega) (by omega)]; unfold cl; rw [if_neg (by omega)]; show M4 60 (8 * k + k) = _; rw [hcol k (Nat.le_refl k) (by omega), Rk_piv, show k - 1 + 1 = k by omega]
                          rw [hpv]
                          refine ev_lstore_n dX6_solves_254 (by decide) ?_
                          refine ev_ls [some (vR _), some (vI _), some (vI _), some (vL _), none, some (vI _)] rfl ?_
                          refine ev_iinc dX6_solves_255 rfl (by decide) ?_
                          refine ev_ls [some (vR _), some (vI _), some (vI _), some (vL _), none, some (vI _)] rfl ?_
                          refine ev_goto 227 dX6_solves_258 ?_
                          refine ihelim (k + 1) M5 (by omega) (by omega) (by omega) (hF4.ch (fun q h1 _ _ => k238 q h1)) ?_ (fun i hi => by rw [k238 59 (by omega)]; exact h59d i hi) ⟨by rw [k238 61 (by omega)]; exact ho4.1, by rw [k238 62 (by omega)]; exact ho4.2⟩
                          intro r q h1 h2 h3 h4
                          rw [m238 r q (by omega) (by omega)]
                          unfold cl
                          by_cases z : k < r
                          · rw [if_pos ⟨z, h2, h3, by omega⟩]
                            show (M4 60 (8 * r + q) * M4 60 (8 * k + k) - M4 60 (8 * r + k) * M4 60 (8 * k + q)).tdiv (dt (k - 1) (Ao (eN M0 c g T) n 1)) = _
                            rw [(hnum r q z h2 h3 (by omega)).2, show min r (k + 1) - 1 = k by omega]
                            unfold Rk; rw [if_neg (by omega)]; congr 1; by_cases q1 : q = 0
                            · subst q1; rw [if_pos rfl, if_pos rfl]; unfold cv; rw [if_neg (by omega)]
                            · rw [if_neg q1, if_neg q1]; unfold cv; rw [if_pos (by omega)]
                          · rw [if_neg (by omega)]
                            show M4 60 (8 * r + q) = _
                            rw [hm4 r q h1 h2 h3 (by omega), show min r (k + 1) - 1 = min r k - 1 by omega]
                    refine ev_lconst1 dX6_solves_222 ?_
                    refine ev_lstore_n dX6_solves_223 (by decide) ?_
                    refine ev_ls [some (vR _), some (vI _), some (vI _), some (vL _), none, none] rfl ?_
                    refine ev_iconst dX6_solves_224 ?_
                    refine ev_istore dX6_solves_225 (by decide) ?_
                    refine ev_ls [some (vR _), some (vI _), some (vI _), some (vL _), none, some (vI _)] rfl ?_
                    refine elim (n + 1) 1 M3 (by omega) (by omega) (by omega) hF3 ?_ h59 ho3
                    intro r q h1 h2 h3 h4
                    rw [hm3 r q (by omega) (by omega), show min r 1 - 1 = 0 by omega, Ss_zero]
                    have hasm := asm_M (e := (eN M0 c g T)) (w := (wN M0 c g T)) (n := n + 1) (a := r) (b := q) h2 h3 (by omega)
                    rw [hasm]
                    by_cases z : q = 0
                    · rw [if_pos z, if_pos z]; show _ = bb _ _ (n + 1) (r - 1 + 1); rw [show r - 1 + 1 = r by omega]
                    · rw [if_neg z, if_neg z]; show _ = La _ (n + 1) (r - 1 + 1) (q - 1 + 1); rw [show r - 1 + 1 = r by omega, show q - 1 + 1 = q by omega]
                  · refine ev_iload_n dX6_solves_66 rfl ?_
                    refine ev_iconst dX6_solves_67 ?_
                    refine ev_iadd dX6_solves_68 ?_
                    refine ev_istore dX6_solves_69 (by decide) ?_
                    refine ev_ls [some (vR _), some (vI _), some (vI _), some (vI _), some (vI _), none] rfl ?_
                    have cols : ∀ (m5 : Nat) (j : Nat) (M4 : Mem), n + 1 < j + m5 → j ≤ n + 1 → i < j → FS M M4 → (∀ a b, a < 8 → b < 8 → M4 60 (8 * a + b) = PM (eN M0 c g T) (wN M0 c g T) (n + 1) i j a b) → (∀ i, i < n + 1 → M4 59 i = (me c g T i : Int)) → (M4 61 = M 61 ∧ M4 62 = M 62) → Em l yX6_solves cX6_solves 6 none 3 84 (fun r M' => r = none ∧ FS M M' ∧ (∀ i, i < n + 1 → M' 61 (me c g T i) = Xo (eN M0 c g T) (wN M0 c g T) n 1 i ∧ M' 62 (me c g T i) = Do (eN M0 c g T) n 1) ∧ ∀ t, (∀ i, i < n + 1 → me c g T i ≠ t) → M' 61 t = M 61 t ∧ M' 62 t = M 62 t) 71 [some (vR 53), some (vI (g : Int)), some (vI ((n + 1 : Nat) : Int)), some (vI (i : Int)), some (vI (j : Int)), none] [] M4 := by
                      intro m5
                      induction m5 with
                      | zero => intro j M4 h7 h8b hij hF4 hm4 h59b ho4; omega
                      | succ m5 ihcols =>
                        intro j M4 h7 h8b hij hF4 hm4 h59b ho4
                        have hE4 := hF4.en hE
                        refine ev_iload dX6_solves_71 rfl ?_
                        refine ev_iload_n dX6_solves_73 rfl ?_
                        refine ev_icmp_ge 216 dX6_solves_74 (by omega) (by omega) (fun c5 => ?_) (fun c5 => ?_)
                        · have ej : n + 1 = j := by omega
                          subst ej
                          refine ev_iinc dX6_solves_216 rfl (by decide) ?_
                          refine ev_ls [some (vR _), some (vI _), some (vI _), some (vI _), some (vI _), none] rfl ?_
                          refine ev_goto 61 dX6_solves_219 ?_
                          refine ev_mask [true, true, true, true, false, false] ?_
                          exact ihrows (i + 1) M4 (by omega) (by omega) hF4 (fun a b ha hb => hm4 a b ha hb) h59b ho4
                        · have hmi := h59b i (by omega)
                          have hmj := h59b j (by omega)
                          have hi1 := (me_in (c := c) (g := g) (T := T) (i := i) (by omega)).1
                          have hj1 := (me_in (c := c) (g := g) (T := T) (i := j) (by omega)).1
                          refine ev_aload_n dX6_solves_77 rfl ?_
                          refine ev_aload_n dX6_solves_78 rfl ?_
                          refine em_getR fX6_26.g dX6_solves_79 lay_53 rfl ?_
                          refine ev_iload_n dX6_solves_82 rfl ?_
                          refine en_iald i dX6_solves_83 lay_59 (by omega) (by omega) ?_
                          refine ev_aload_n dX6_solves_84 rfl ?_
                          refine em_getR fX6_26.g dX6_solves_85 lay_53 rfl ?_
                          refine ev_iload dX6_solves_88 rfl ?_
                          refine en_iald j dX6_solves_90 lay_59 (by omega) (by omega) ?_
                          rw [hmi, hmj]
                          refine em_V2 (d_differ l (i := me c g T i) (j := me c g T j) hE4 hG (by omega) (by omega)) mX6_118 dX6_solves_91 lay_53 ?_
                          rintro r M5 ⟨k91, f91, hE91, z91, rfl, hd⟩
                          refine ev_if_eq 210 dX6_solves_94 (by omega) (fun c94 => ?_) (fun c94 => ?_)
                          · refine ev_iinc dX6_solves_210 rfl (by decide) ?_
                            refine ev_ls [some (vR _), some (vI _), some (vI _), some (vI _), some (vI _), none] rfl ?_
                            refine ev_goto 71 dX6_solves_213 ?_
                            have hne : ¬ eN M0 c g T i j := by rcases hd with hd | hd; exact hd.2; omega
                            exact ihcols (j + 1) M5 (by omega) (by omega) (by omega) (hF4.fr ⟨k91, f91⟩) (fun a b ha hb => by rw [k91 60 (by omega), hm4 a b ha hb, ← PM_next (show i < j by omega)]; unfold kM; rw [cif_neg hne, Int.add_zero]) (fun q hq => by rw [k91 59 (by omega)]; exact h59b q hq) ⟨by rw [k91 61 (by omega)]; exact ho4.1, by rw [k91 62 (by omega)]; exact ho4.2⟩
                          · have hed : eN M0 c g T i j ∧ M5 53 10 = wN M0 c g T i j := by rcases hd with hd | hd; omega; exact hd.2
                            have hF5 := hF4.fr ⟨k91, f91⟩
                            refine ev_aload_n dX6_solves_97 rfl ?_
                            refine em_getR fX6_29.g dX6_solves_98 lay_53 rfl ?_
                            refine ev_bipush dX6_solves_101 (by decide) ?_
                            refine ev_iload_n dX6_solves_103 rfl ?_
                            refine ev_imul dX6_solves_104 ?_
                            refine ev_iload_n dX6_solves_105 rfl ?_
                            refine ev_iadd dX6_solves_106 ?_
                            refine ev_dup2 dX6_solves_107 ?_
                            refine en_lald ((8 * i) + i) dX6_solves_108 lay_60 (by omega) (by omega) ?_
                            refine ev_lconst1 dX6_solves_109 ?_
                            refine ev_ladd dX6_solves_110 ?_
                            refine en_last ((8 * i) + i) dX6_solves_111 lay_60 (by omega) (by omega) ?_
                            refine ev_aload_n dX6_solves_112 rfl ?_
                            refine em_getR fX6_29.g dX6_solves_113 lay_53 rfl ?_
                            refine ev_bipush dX6_solves_116 (by decide) ?_
                            refine ev_iload dX6_solves_118 rfl ?_
                            refine ev_imul dX6_solves_120 ?_
                            refine ev_iload dX6_solves_121 rfl ?_
                            refine ev_iadd dX6_solves_123 ?_
                            refine ev_dup2 dX6_solves_124 ?_
                            refine en_lald ((8 * j) + j) dX6_solves_125 lay_60 (by omega) (by omega) ?_
                            refine ev_lconst1 dX6_solves_126 ?_
                            refine ev_ladd dX6_solves_127 ?_
                            refine en_last ((8 * j) + j) dX6_solves_128 lay_60 (by omega) (by omega) ?_
                            refine ev_aload_n dX6_solves_129 rfl ?_
                            refine em_getR fX6_29.g dX6_solves_130 lay_53 rfl ?_
                            refine ev_bipush dX6_solves_133 (by decide) ?_
                            refine ev_iload_n dX6_solves_135 rfl ?_
                            refine ev_imul dX6_solves_136 ?_
                            refine ev_iload dX6_solves_137 rfl ?_
                            refine ev_iadd dX6_solves_139 ?_
                            refine ev_dup2 dX6_solves_140 ?_
                            refine en_lald ((8 * i) + j) dX6_solves_141 lay_60 (by omega) (by omega) ?_
                            refine ev_lconst1 dX6_solves_142 ?_
                            refine ev_lsub dX6_solves_143 ?_
                            refine en_last ((8 * i) + j) dX6_solves_144 lay_60 (by omega) (by omega) ?_
                            refine ev_aload_n dX6_solves_145 rfl ?_
                            refine em_getR fX6_29.g dX6_solves_146 lay_53 rfl ?_
                            refine ev_bipush dX6_solves_149 (by decide) ?_
                            refine ev_iload dX6_solves_151 rfl ?_
                            refine ev_imul dX6_solves_153 ?_
                            refine ev_iload_n dX6_solves_154 rfl ?_
                            refine ev_iadd dX6_solves_155 ?_
                            refine ev_dup2 dX6_solves_156 ?_
                            refine en_lald ((8 * j) + i) dX6_solves_157 lay_60 (by omega) (by omega) ?_
                            refine ev_iload_n dX6_solves_158 rfl ?_
                            refine ev_if_ne 166 dX6_solves_159 (by omega) (fun c159 => ?_) (fun c159 => ?_)
                            · refine ev_lconst1 dX6_solves_166 ?_
                              refine ev_lsub dX6_solves_167 ?_
                              refine en_last ((8 * j) + i) dX6_solves_168 lay_60 (by omega) (by omega) ?_
                              refine ev_aload_n dX6_solves_169 rfl ?_
                              refine em_getR fX6_29.g dX6_solves_170 lay_53 rfl ?_
                              refine ev_bipush dX6_solves_173 (by decide) ?_
                              refine ev_iload_n dX6_solves_175 rfl ?_
                              refine ev_imul dX6_solves_176 ?_
                              refine ev_dup2 dX6_solves_177 ?_
                              refine en_lald (8 * i) dX6_solves_178 lay_60 (by omega) (by omega) ?_
                              refine ev_iload_n dX6_solves_179 rfl ?_
                              refine ev_if_ne 187 dX6_solves_180 (by omega) (fun c180 => ?_) (fun c180 => ?_)
                              · refine ev_aload_n dX6_solves_187 rfl ?_
                                refine em_getL fX6_114.g dX6_solves_188 lay_53 rfl ?_
                                refine ev_ladd dX6_solves_191 ?_
                                refine en_last (8 * i) dX6_solves_192 lay_60 (by omega) (by omega) ?_
                                refine ev_aload_n dX6_solves_193 rfl ?_
                                refine em_getR fX6_29.g dX6_solves_194 lay_53 rfl ?_
                                refine ev_bipush dX6_solves_197 (by decide) ?_
                                refine ev_iload dX6_solves_199 rfl ?_
                                refine ev_imul dX6_solves_201 ?_
                                refine ev_dup2 dX6_solves_202 ?_
                                refine en_lald (8 * j) dX6_solves_203 lay_60 (by omega) (by omega) ?_
                                refine ev_aload_n dX6_solves_204 rfl ?_
                                refine em_getL fX6_114.g dX6_solves_205 lay_53 rfl ?_
                                refine ev_lsub dX6_solves_208 ?_
                                refine en_last (8 * j) dX6_solves_209 lay_60 (by omega) (by omega) ?_
                                refine ev_iinc dX6_solves_210 rfl (by decide) ?_
                                refine ev_ls [some (vR _), some (vI _), some (vI _), some (vI _), some (vI _), none] rfl ?_
                                refine ev_goto 71 dX6_solves_213 ?_
                                first | (exfalso; omega) | skip
                                all_goals (refine ihcols (j + 1) _ (by omega) (by omega) (by omega) ((((((hF5.up (Or.inr (Or.inl rfl)) _ _).up (Or.inr (Or.inl rfl)) _ _).up (Or.inr (Or.inl rfl)) _ _).up (Or.inr (Or.inl rfl)) _ _).up (Or.inr (Or.inl rfl)) _ _).up (Or.inr (Or.inl rfl)) _ _) (fun a b ha hb => ?_) (fun q hq => by simp only [up2_row _ _ _ _ (show 59 ≠ 60 by omega)]; rw [k91 59 (by omega)]; exact h59b q hq) ⟨by simp only [up2_row _ _ _ _ (show 61 ≠ 60 by omega)]; rw [k91 61 (by omega)]; exact ho4.1, by simp only [up2_row _ _ _ _ (show 62 ≠ 60 by omega)]; rw [k91 62 (by omega)]; exact ho4.2⟩)
                                all_goals (rw [sub60z ha hb (show j < 8 by omega), add60z ha hb (show i < 8 by omega), sub60 ha hb (show j < 8 by omega) (show i < 8 by omega), sub60 ha hb (show i < 8 by omega) (show j < 8 by omega), add60 ha hb (show j < 8 by omega) (show j < 8 by omega), add60 ha hb (show i < 8 by omega) (show i < 8 by omega), k91 60 (by omega), hm4 a b ha hb, ← PM_next (show i < j by omega)]; simp only [up2_row _ _ _ _ (show 53 ≠ 60 by omega), hed.2]; unfold kM; rw [cif_pos hed.1])
                                all_goals (by_cases i0 : i = 0 <;> simp [i0] <;> omega)
                              · refine ev_lconst0 dX6_solves_183 ?_
                                refine ev_goto 191 dX6_solves_184 ?_
                                refine ev_ladd dX6_solves_191 ?_
                                refine en_last (8 * i) dX6_solves_192 lay_60 (by omega) (by omega) ?_
                                refine ev_aload_n dX6_solves_193 rfl ?_
                                refine em_getR fX6_29.g dX6_solves_194 lay_53 rfl ?_
                                refine ev_bipush dX6_solves_197 (by decide) ?_
                                refine ev_iload dX6_solves_199 rfl ?_
                                refine ev_imul dX6_solves_201 ?_
                                refine ev_dup2 dX6_solves_202 ?_
                                refine en_lald (8 * j) dX6_solves_203 lay_60 (by omega) (by omega) ?_
                                refine ev_aload_n dX6_solves_204 rfl ?_
                                refine em_getL fX6_114.g dX6_solves_205 lay_53 rfl ?_
                                refine ev_lsub dX6_solves_208 ?_
                                refine en_last (8 * j) dX6_solves_209 lay_60 (by omega) (by omega) ?_
                                refine ev_iinc dX6_solves_210 rfl (by decide) ?_
                                refine ev_ls [some (vR _), some (vI _), some (vI _), some (vI _), some (vI _), none] rfl ?_
                                refine ev_goto 71 dX6_solves_213 ?_
                                first | (exfalso; omega) | skip
                                all_goals (refine ihcols (j + 1) _ (by omega) (by omega) (by omega) ((((((hF5.up (Or.inr (Or.inl rfl)) _ _).up (Or.inr (Or.inl rfl)) _ _).up (Or.inr (Or.inl rfl)) _ _).up (Or.inr (Or.inl rfl)) _ _).up (Or.inr (Or.inl rfl)) _ _).up (Or.inr (Or.inl rfl)) _ _) (fun a b ha hb => ?_) (fun q hq => by simp only [up2_row _ _ _ _ (show 59 ≠ 60 by omega)]; rw [k91 59 (by omega)]; exact h59b q hq) ⟨by simp only [up2_row _ _ _ _ (show 61 ≠ 60 by omega)]; rw [k91 61 (by omega)]; exact ho4.1, by simp only [up2_row _ _ _ _ (show 62 ≠ 60 by omega)]; rw [k91 62 (by omega)]; exact ho4.2⟩)
                                all_goals (rw [sub60z ha hb (show j < 8 by omega), add60z ha hb (show i < 8 by omega), sub60 ha hb (show j < 8 by omega) (show i < 8 by omega), sub60 ha hb (show i < 8 by omega) (show j < 8 by omega), add60 ha hb (show j < 8 by omega) (show j < 8 by omega), add60 ha hb (show i < 8 by omega) (show i < 8 by omega), k91 60 (by omega), hm4 a b ha hb, ← PM_next (show i < j by omega)]; simp only [up2_row _ _ _ _ (show 53 ≠ 60 by omega), hed.2]; unfold kM; rw [cif_pos hed.1])
                                all_goals (by_cases i0 : i = 0 <;> simp [i0] <;> omega)
                            · refine ev_lconst0 dX6_solves_162 ?_
                              refine ev_goto 167 dX6_solves_163 ?_
                              refine ev_lsub dX6_solves_167 ?_
                              refine en_last ((8 * j) + i) dX6_solves_168 lay_60 (by omega) (by omega) ?_
                              refine ev_aload_n dX6_solves_169 rfl ?_
                              refine em_getR fX6_29.g dX6_solves_170 lay_53 rfl ?_
                              refine ev_bipush dX6_solves_173 (by decide) ?_
                              refine ev_iload_n dX6_solves_175 rfl ?_
                              refine ev_imul dX6_solves_176 ?_
                              refine ev_dup2 dX6_solves_177 ?_
                              refine en_lald (8 * i) dX6_solves_178 lay_60 (by omega) (by omega) ?_
                              refine ev_iload_n dX6_solves_179 rfl ?_
                              refine ev_if_ne 187 dX6_solves_180 (by omega) (fun c180 => ?_) (fun c180 => ?_)
                              · refine ev_aload_n dX6_solves_187 rfl ?_
                                refine em_getL fX6_114.g dX6_solves_188 lay_53 rfl ?_
                                refine ev_ladd dX6_solves_191 ?_
                                refine en_last (8 * i) dX6_solves_192 lay_60 (by omega) (by omega) ?_
                                refine ev_aload_n dX6_solves_193 rfl ?_
                                refine em_getR fX6_29.g dX6_solves_194 lay_53 rfl ?_
                                refine ev_bipush dX6_solves_197 (by decide) ?_
                                refine ev_iload dX6_solves_199 rfl ?_
                                refine ev_imul dX6_solves_201 ?_
                                refine ev_dup2 dX6_solves_202 ?_
                                refine en_lald (8 * j) dX6_solves_203 lay_60 (by omega) (by omega) ?_
                                refine ev_aload_n dX6_solves_204 rfl ?_
                                refine em_getL fX6_114.g dX6_solves_205 lay_53 rfl ?_
                                refine ev_lsub dX6_solves_208 ?_
                                refine en_last (8 * j) dX6_solves_209 lay_60 (by omega) (by omega) ?_
                                refine ev_iinc dX6_solves_210 rfl (by decide) ?_
                                refine ev_ls [some (vR _), some (vI _), some (vI _), some (vI _), some (vI _), none] rfl ?_
                                refine ev_goto 71 dX6_solves_213 ?_
                                first | (exfalso; omega) | skip
                                all_goals (refine ihcols (j + 1) _ (by omega) (by omega) (by omega) ((((((hF5.up (Or.inr (Or.inl rfl)) _ _).up (Or.inr (Or.inl rfl)) _ _).up (Or.inr (Or.inl rfl)) _ _).up (Or.inr (Or.inl rfl)) _ _).up (Or.inr (Or.inl rfl)) _ _).up (Or.inr (Or.inl rfl)) _ _) (fun a b ha hb => ?_) (fun q hq => by simp only [up2_row _ _ _ _ (show 59 ≠ 60 by omega)]; rw [k91 59 (by omega)]; exact h59b q hq) ⟨by simp only [up2_row _ _ _ _ (show 61 ≠ 60 by omega)]; rw [k91 61 (by omega)]; exact ho4.1, by simp only [up2_row _ _ _ _ (show 62 ≠ 60 by omega)]; rw [k91 62 (by omega)]; exact ho4.2⟩)
                                all_goals (rw [sub60z ha hb (show j < 8 by omega), add60z ha hb (show i < 8 by omega), sub60 ha hb (show j < 8 by omega) (show i < 8 by omega), sub60 ha hb (show i < 8 by omega) (show j < 8 by omega), add60 ha hb (show j < 8 by omega) (show j < 8 by omega), add60 ha hb (show i < 8 by omega) (show i < 8 by omega), k91 60 (by omega), hm4 a b ha hb, ← PM_next (show i < j by omega)]; simp only [up2_row _ _ _ _ (show 53 ≠ 60 by omega), hed.2]; unfold kM; rw [cif_pos hed.1])
                                all_goals (by_cases i0 : i = 0 <;> simp [i0] <;> omega)
                              · refine ev_lconst0 dX6_solves_183 ?_
                                refine ev_goto 191 dX6_solves_184 ?_
                                refine ev_ladd dX6_solves_191 ?_
                                refine en_last (8 * i) dX6_solves_192 lay_60 (by omega) (by omega) ?_
                                refine ev_aload_n dX6_solves_193 rfl ?_
                                refine em_getR fX6_29.g dX6_solves_194 lay_53 rfl ?_
                                refine ev_bipush dX6_solves_197 (by decide) ?_
                                refine ev_iload dX6_solves_199 rfl ?_
                                refine ev_imul dX6_solves_201 ?_
                                refine ev_dup2 dX6_solves_202 ?_
                                refine en_lald (8 * j) dX6_solves_203 lay_60 (by omega) (by omega) ?_
                                refine ev_aload_n dX6_solves_204 rfl ?_
                                refine em_getL fX6_114.g dX6_solves_205 lay_53 rfl ?_
                                refine ev_lsub dX6_solves_208 ?_
                                refine en_last (8 * j) dX6_solves_209 lay_60 (by omega) (by omega) ?_
                                refine ev_iinc dX6_solves_210 rfl (by decide) ?_
                                refine ev_ls [some (vR _), some (vI _), some (vI _), some (vI _), some (vI _), none] rfl ?_
                                refine ev_goto 71 dX6_solves_213 ?_
                                first | (exfalso; omega) | skip
                                all_goals (refine ihcols (j + 1) _ (by omega) (by omega) (by omega) ((((((hF5.up (Or.inr (Or.inl rfl)) _ _).up (Or.inr (Or.inl rfl)) _ _).up (Or.inr (Or.inl rfl)) _ _).up (Or.inr (Or.inl rfl)) _ _).up (Or.inr (Or.inl rfl)) _ _).up (Or.inr (Or.inl rfl)) _ _) (fun a b ha hb => ?_) (fun q hq => by simp only [up2_row _ _ _ _ (show 59 ≠ 60 by omega)]; rw [k91 59 (by omega)]; exact h59b q hq) ⟨by simp only [up2_row _ _ _ _ (show 61 ≠ 60 by omega)]; rw [k91 61 (by omega)]; exact ho4.1, by simp only [up2_row _ _ _ _ (show 62 ≠ 60 by omega)]; rw [k91 62 (by omega)]; exact ho4.2⟩)
                                all_goals (rw [sub60z ha hb (show j < 8 by omega), add60z ha hb (show i < 8 by omega), sub60 ha hb (show j < 8 by omega) (show i < 8 by omega), sub60 ha hb (show i < 8 by omega) (show j < 8 by omega), add60 ha hb (show j < 8 by omega) (show j < 8 by omega), add60 ha hb (show i < 8 by omega) (show i < 8 by omega), k91 60 (by omega), hm4 a b ha hb, ← PM_next (show i < j by omega)]; simp only [up2_row _ _ _ _ (show 53 ≠ 60 by omega), hed.2]; unfold kM; rw [cif_pos hed.1])
                                all_goals (by_cases i0 : i = 0 <;> simp [i0] <;> omega)
                    exact cols (n + 2) (i + 1) M3 (by omega) (by omega) (by omega) hF3 (fun a b ha hb => by rw [hm3 a b ha hb, PM_start]) h59 ho3
              refine ev_iconst dX6_solves_59 ?_
              refine ev_istore_n dX6_solves_60 (by decide) ?_
              refine ev_ls [some (vR _), some (vI _), some (vI _), some (vI _), none, none] rfl ?_
              exact rows (n + 2) 0 M2 (by omega) (by omega) hF2 (fun a b ha hb => by rw [hz2 _ (by omega)]; rfl) h59a ho2
            · refine ev_aload_n dX6_solves_46 rfl ?_
              refine em_getR fX6_29.g dX6_solves_47 lay_53 rfl ?_
              refine ev_iload_n dX6_solves_50 rfl ?_
              refine ev_lconst0 dX6_solves_51 ?_
              refine en_last z dX6_solves_52 lay_60 (by omega) (by omega) ?_
              refine ev_iinc dX6_solves_53 rfl (by decide) ?_
              refine ev_ls [some (vR _), some (vI _), some (vI _), some (vI _), none, none] rfl ?_
              refine ev_goto 40 dX6_solves_56 ?_
              exact ihzero (z + 1) _ (by omega) (by omega) (hF2.up (Or.inr (Or.inl rfl)) _ _) (fun q hq => by rw [up2_at]; by_cases e : q = z; (rw [if_pos ⟨rfl, e⟩]); (rw [if_neg (by omega)]; exact hz2 q (by omega))) (fun q hq => by rw [up2_row _ _ _ _ (by omega)]; exact h59a q hq) ⟨by rw [up2_row _ _ _ _ (by omega)]; exact ho2.1, by rw [up2_row _ _ _ _ (by omega)]; exact ho2.2⟩
        refine ev_iconst dX6_solves_38 ?_
        refine ev_istore_n dX6_solves_39 (by decide) ?_
        refine ev_ls [some (vR _), some (vI _), some (vI _), some (vI _), none, none] rfl ?_
        exact zero 65 0 M1 (by omega) (by omega) ⟨fun k _ h2 _ _ _ => hk1 k h2, fun f _ _ _ _ _ => by rw [hk1 53 (by omega)]⟩ (fun q hq => by omega) hm1 ⟨hk1 61 (by omega), hk1 62 (by omega)⟩
      · have hvt : M1 58 t = (c t : Int) := by rw [h58]; exact hv t (by omega)
        have hct := hc.2.1 t (by omega)
        refine ev_aload_n dX6_solves_12 rfl ?_
        refine em_getR fX6_23.g dX6_solves_13 lay_53 rfl ?_
        refine ev_iload_n dX6_solves_16 rfl ?_
        refine en_iald t dX6_solves_17 lay_58 (by omega) (by omega) ?_
        refine ev_iload_n dX6_solves_18 rfl ?_
        refine ev_icmp_ne 32 dX6_solves_19 (by omega) (by omega) (fun c19 => ?_) (fun c19 => ?_)
        · have hct2 : ¬ c t = g := by omega
          have hs := ml_skip (T := t) hct2
          refine ev_iinc dX6_solves_32 rfl (by decide) ?_
          refine ev_ls [some (vR _), some (vI _), some (vI _), some (vI _), none, none] rfl ?_
          refine ev_goto 4 dX6_solves_35 ?_
          have hgo := ihgather (t + 1) M1 (by omega) (by omega) hk1 (fun i hi => by rw [hs] at hi; rw [me_stable hi]; exact hm1 i hi)
          rw [hs] at hgo
          exact hgo
        · have hct2 : c t = g := by omega
          have hn := me_new (T := t) hct2
          refine ev_aload_n dX6_solves_22 rfl ?_
          refine em_getR fX6_26.g dX6_solves_23 lay_53 rfl ?_
          refine ev_iload_n dX6_solves_26 rfl ?_
          refine ev_iload_n dX6_solves_27 rfl ?_
          refine en_iast (ml c g t).length dX6_solves_28 lay_59 (by omega) (by omega) ?_
          refine ev_iinc dX6_solves_29 rfl (by decide) ?_
          refine ev_ls [some (vR _), some (vI _), some (vI _), some (vI _), none, none] rfl ?_
          refine ev_iinc dX6_solves_32 rfl (by decide) ?_
          refine ev_ls [some (vR _), some (vI _), some (vI _), some (vI _), none, none] rfl ?_
          refine ev_goto 4 dX6_solves_35 ?_
          have hgo := ihgather (t + 1) (up2 M1 59 (ml c g t).length (t : Int)) (by omega) (by omega) (fun q hq => by rw [up2_row _ _ _ _ hq, hk1 q hq]) (fun i hi => by rw [hn.1] at hi; rw [up2_at]; by_cases e : i = (ml c g t).length; (rw [if_pos ⟨rfl, e⟩, e, hn.2]); (rw [if_neg (by omega), me_stable (by omega)]; exact hm1 i (by omega)))
          rw [hn.1] at hgo
          exact hgo
  refine ev_iconst dX6_solves_0 ?_
  refine ev_istore_n dX6_solves_1 (by decide) ?_
  refine ev_ls [some (vR _), some (vI _), some (vI _), none, none, none] rfl ?_
  refine ev_iconst dX6_solves_2 ?_
  refine ev_istore_n dX6_solves_3 (by decide) ?_
  refine ev_ls [some (vR _), some (vI _), some (vI _), some (vI _), none, none] rfl ?_
  exact gather (T + 1) 0 M (by omega) (by omega) (fun _ _ => rfl) (fun i hi => by simp [ml] at hi)
