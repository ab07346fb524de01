abbrev LW (l : Launch) (nm : String) (b L : Nat) (xs : Nat → Int32) (pc : Nat) (ls : List (Option PV)) (st : List PV) (M : Mem) : Prop := Ev l ⟨RL, nm, "([I)Z"⟩ cL_law 4 ret room_1 (EL b L xs) (ZL b) 63 pc ls st 63 63 617 (hp M)
theorem lc_track (l : Launch) {nm : String} {b L : Nat} {xs : Nat → Int32} {i : Nat} {M : Mem} (hL : L ≤ 3584) (hi : i + 7 ≤ L) (hI : Inv M) (next : ∀ M', Inv M' → LW l nm b L xs 724 [some (vR 63), some (vR 0), some (vR 53), some (vI (i : Int))] [] M') : LW l nm b L xs 112 [some (vR 63), some (vR 0), some (vR 53), some (vI (i : Int))] [] M := by
  obtain ⟨M0, T, N, c, h⟩ := hI
  have h8 := h.g.1
  refine ev_aload_n dL_law_112 rfl ?_
  refine ev_aload_n dL_law_113 rfl ?_
  refine ev_iload_n dL_law_114 rfl ?_
  refine ev_iconst dL_law_115 ?_
  refine ev_iadd dL_law_116 ?_
  refine ev_sld dL_law_117 (by omega) hL ?_
  refine ev_aload_n dL_law_118 rfl ?_
  refine ev_iload_n dL_law_119 rfl ?_
  refine ev_iconst dL_law_120 ?_
  refine ev_iadd dL_law_121 ?_
  refine ev_sld dL_law_122 (by omega) hL ?_
  refine ev_aload_n dL_law_123 rfl ?_
  refine ev_iload_n dL_law_124 rfl ?_
  refine ev_iconst dL_law_125 ?_
  refine ev_iadd dL_law_126 ?_
  refine ev_sld dL_law_127 (by omega) hL ?_
  refine ev_aload_n dL_law_128 rfl ?_
  refine ev_iload_n dL_law_129 rfl ?_
  refine ev_iconst dL_law_130 ?_
  refine ev_iadd dL_law_131 ?_
  refine ev_sld dL_law_132 (by omega) hL ?_
  refine ev_aload_n dL_law_133 rfl ?_
  refine ev_iload_n dL_law_134 rfl ?_
  refine ev_iconst dL_law_135 ?_
  refine ev_iadd dL_law_136 ?_
  refine ev_sld dL_law_137 (by omega) hL ?_
  refine ev_aload_n dL_law_138 rfl ?_
  refine ev_iload_n dL_law_139 rfl ?_
  refine ev_bipush dL_law_140 (by decide) ?_
  refine ev_iadd dL_law_142 ?_
  refine ev_sld dL_law_143 (by omega) hL ?_
  refine em_V6 (c_track l h8 h.t5 (sx_i32 _ _) (sx_i32 _ _) (sx_i32 _ _) (sx_i32 _ _) (sx_i32 _ _) (sx_i32 _ _)) mL_13 dL_law_144 lay_0 ?_
  rintro r M1 ⟨rfl, q1⟩
  have hT1 : M1 53 0 = (T : Int) := by
    rcases q1 with ⟨-, q⟩ | ⟨-, -, q⟩
    · rw [q]; exact h.t53
    · rw [q.1 53 (by omega) (by omega)]; exact h.t53
  refine ev_aload_n dL_law_147 rfl ?_
  refine ev_aload_n dL_law_148 rfl ?_
  refine ev_iload_n dL_law_149 rfl ?_
  refine ev_iconst dL_law_150 ?_
  refine ev_iadd dL_law_151 ?_
  refine ev_sld dL_law_152 (by omega) hL ?_
  refine ev_aload_n dL_law_153 rfl ?_
  refine ev_iload_n dL_law_154 rfl ?_
  refine ev_iconst dL_law_155 ?_
  refine ev_iadd dL_law_156 ?_
  refine ev_sld dL_law_157 (by omega) hL ?_
  refine ev_aload_n dL_law_158 rfl ?_
  refine ev_iload_n dL_law_159 rfl ?_
  refine ev_iconst dL_law_160 ?_
  refine ev_iadd dL_law_161 ?_
  refine ev_sld dL_law_162 (by omega) hL ?_
  refine ev_aload_n dL_law_163 rfl ?_
  refine ev_iload_n dL_law_164 rfl ?_
  refine ev_iconst dL_law_165 ?_
  refine ev_iadd dL_law_166 ?_
  refine ev_sld dL_law_167 (by omega) hL ?_
  refine ev_aload_n dL_law_168 rfl ?_
  refine ev_iload_n dL_law_169 rfl ?_
  refine ev_iconst dL_law_170 ?_
  refine ev_iadd dL_law_171 ?_
  refine ev_sld dL_law_172 (by omega) hL ?_
  refine ev_aload_n dL_law_173 rfl ?_
  refine ev_iload_n dL_law_174 rfl ?_
  refine ev_bipush dL_law_175 (by decide) ?_
  refine ev_iadd dL_law_177 ?_
  refine ev_sld dL_law_178 (by omega) hL ?_
  refine em_V6 (d_track l h8 hT1 (sx_i32 _ _) (sx_i32 _ _) (sx_i32 _ _) (sx_i32 _ _) (sx_i32 _ _) (sx_i32 _ _)) mL_17 dL_law_179 lay_53 ?_
  rintro r M2 ⟨rfl, q2⟩
  refine ev_icmp_self 724 (rfl) dL_law_182 ?_
  exact next M2 (st_track h q1 q2)
theorem lc_read (l : Launch) {nm : String} {b L : Nat} {xs : Nat → Int32} {i : Nat} {M : Mem} (hL : L ≤ 3584) (hi : i + 7 ≤ L) (hI : Inv M) (next : ∀ M', Inv M' → LW l nm b L xs 724 [some (vR 63), some (vR 0), some (vR 53), some (vI (i : Int))] [] M') : LW l nm b L xs 187 [some (vR 63), some (vR 0), some (vR 53), some (vI (i : Int))] [] M := by
  obtain ⟨M0, T, N, c, h⟩ := hI
  have h8 := h.g.1
  refine ev_aload_n dL_law_187 rfl ?_
  refine ev_aload_n dL_law_188 rfl ?_
  refine ev_iload_n dL_law_189 rfl ?_
  refine ev_iconst dL_law_190 ?_
  refine ev_iadd dL_law_191 ?_
  refine ev_sld dL_law_192 (by omega) hL ?_
  refine ev_aload_n dL_law_193 rfl ?_
  refine ev_iload_n dL_law_194 rfl ?_
  refine ev_iconst dL_law_195 ?_
  refine ev_iadd dL_law_196 ?_
  refine ev_sld dL_law_197 (by omega) hL ?_
  refine ev_aload_n dL_law_198 rfl ?_
  refine ev_iload_n dL_law_199 rfl ?_
  refine ev_iconst dL_law_200 ?_
  refine ev_iadd dL_law_201 ?_
  refine ev_sld dL_law_202 (by omega) hL ?_
  refine em_V3 (c_read l h8 h.t5 (sx_i32 _ _) (sx_i32 _ _) (sx_i32 _ _)) mL_18 dL_law_203 lay_0 ?_
  rintro r M1 (⟨v1, rfl, rfl⟩ | ⟨v1, rfl, rfl⟩)
  · skip
    have hT1 : (up2 (up2 M (2 + 2 * (sx xs ((i : Int) + 1).toNat).toNat + 1) (sx xs ((i : Int) + 2).toNat).toNat (sx xs ((i : Int) + 3).toNat)) 0 6 1) 53 0 = (T : Int) := by
      rw [up2_row _ _ _ _ (by omega), up2_row _ _ _ _ (by omega)]; exact h.t53
    refine ev_aload_n dL_law_206 rfl ?_
    refine ev_aload_n dL_law_207 rfl ?_
    refine ev_iload_n dL_law_208 rfl ?_
    refine ev_iconst dL_law_209 ?_
    refine ev_iadd dL_law_210 ?_
    refine ev_sld dL_law_211 (by omega) hL ?_
    refine ev_aload_n dL_law_212 rfl ?_
    refine ev_iload_n dL_law_213 rfl ?_
    refine ev_iconst dL_law_214 ?_
    refine ev_iadd dL_law_215 ?_
    refine ev_sld dL_law_216 (by omega) hL ?_
    refine ev_aload_n dL_law_217 rfl ?_
    refine ev_iload_n dL_law_218 rfl ?_
    refine ev_iconst dL_law_219 ?_
    refine ev_iadd dL_law_220 ?_
    refine ev_sld dL_law_221 (by omega) hL ?_
    refine em_V3 (d_read l h8 hT1 (sx_i32 _ _) (sx_i32 _ _) (sx_i32 _ _)) mL_22 dL_law_222 lay_53 ?_
    rintro r M2 (⟨v2, rfl, rfl⟩ | ⟨v2, rfl, rfl⟩)
    · skip
      have ht : (sx xs ((i : Int) + 1).toNat).toNat < T := by omega
      have hk : (sx xs ((i : Int) + 2).toNat).toNat < 9 := by omega
      have eL := ((h.e.gt h.g).2 _ ht).2.2.2.2.2.2.2.2 _ hk
      refine ev_icmp_self 724 (by rw [up2_row _ _ _ _ (by omega), up2_row _ _ _ _ (by omega), eL]) dL_law_225 ?_
      exact next _ (iv_read h ht hk v1.2.2)
    · exact absurd v1 v2
  · skip
    have hT1 := h.t53
    refine ev_aload_n dL_law_206 rfl ?_
    refine ev_aload_n dL_law_207 rfl ?_
    refine ev_iload_n dL_law_208 rfl ?_
    refine ev_iconst dL_law_209 ?_
    refine ev_iadd dL_law_210 ?_
    refine ev_sld dL_law_211 (by omega) hL ?_
    refine ev_aload_n dL_law_212 rfl ?_
    refine ev_iload_n dL_law_213 rfl ?_
    refine ev_iconst dL_law_214 ?_
    refine ev_iadd dL_law_215 ?_
    refine ev_sld dL_law_216 (by omega) hL ?_
    refine ev_aload_n dL_law_217 rfl ?_
    refine ev_iload_n dL_law_218 rfl ?_
    refine ev_iconst dL_law_219 ?_
    refine ev_iadd dL_law_220 ?_
    refine ev_sld dL_law_221 (by omega) hL ?_
    refine em_V3 (d_read l h8 hT1 (sx_i32 _ _) (sx_i32 _ _) (sx_i32 _ _)) mL_22 dL_law_222 lay_53 ?_
    rintro r M2 (⟨v2, rfl, rfl⟩ | ⟨v2, rfl, rfl⟩)
    · exact absurd v2 v1
    · skip
      refine ev_icmp_self 724 (rfl) dL_law_225 ?_
      exact next _ ⟨M0, T, N, c, h⟩
theorem lc_hold (l : Launch) {nm : String} {b L : Nat} {xs : Nat → Int32} {i : Nat} {M : Mem} (hL : L ≤ 3584) (hi : i + 7 ≤ L) (hI : Inv M) (next : ∀ M', Inv M' → LW l nm b L xs 724 [some (vR 63), some (vR 0), some (vR 53), some (vI (i : Int))] [] M') : LW l nm b L xs 230 [some (vR 63), some (vR 0), some (vR 53), some (vI (i : Int))] [] M := by
  obtain ⟨M0, T, N, c, h⟩ := hI
  have h8 := h.g.1
  refine ev_aload_n dL_law_230 rfl ?_
  refine ev_aload_n dL_law_231 rfl ?_
  refine ev_iload_n dL_law_232 rfl ?_
  refine ev_iconst dL_law_233 ?_
  refine ev_iadd dL_law_234 ?_
  refine ev_sld dL_law_235 (by omega) hL ?_
  refine ev_aload_n dL_law_236 rfl ?_
  refine ev_iload_n dL_law_237 rfl ?_
  refine ev_iconst dL_law_238 ?_
  refine ev_iadd dL_law_239 ?_
  refine ev_sld dL_law_240 (by omega) hL ?_
  have hh : ∀ t, t < T → M (2 + 2 * t) 6 = 0 ∨ M (2 + 2 * t) 6 = 1 := fun t ht => ((h.e.gt h.g).2 t ht).1.2.2.2.2.2.2.1
  skip
  refine ev_if_eq 248 dL_law_241 (sx_i32 _ _) (fun z0 => ?_) (fun z0 => ?_)
  · skip
    refine ev_iconst dL_law_248 ?_
    refine em_V2 (c_hold l h8 h.t5 hh (sx_i32 _ _) (by omega)) mL_23 dL_law_249 lay_0 ?_
    rintro r M1 (⟨v1, rfl, rfl⟩ | ⟨v1, rfl, rfl⟩)
    · skip
      have hT1 : (up2 (up2 M (2 + 2 * (sx xs ((i : Int) + 1).toNat).toNat) 6 0) 0 6 1) 53 0 = (T : Int) := by
        rw [up2_row _ _ _ _ (by omega), up2_row _ _ _ _ (by omega)]; exact h.t53
      have hm1 : ∀ t, t < T → (up2 (up2 M (2 + 2 * (sx xs ((i : Int) + 1).toNat).toNat) 6 0) 0 6 1) 56 t = 0 ∨ (up2 (up2 M (2 + 2 * (sx xs ((i : Int) + 1).toNat).toNat) 6 0) 0 6 1) 56 t = 1 := fun t ht => by
        rw [up2_row _ _ _ _ (by omega), up2_row _ _ _ _ (by omega), ((h.e.gt h.g).2 t ht).2.2.2.2.2.2.2.1]; exact hh t ht
      refine ev_aload_n dL_law_252 rfl ?_
      refine ev_aload_n dL_law_253 rfl ?_
      refine ev_iload_n dL_law_254 rfl ?_
      refine ev_iconst dL_law_255 ?_
      refine ev_iadd dL_law_256 ?_
      refine ev_sld dL_law_257 (by omega) hL ?_
      refine ev_aload_n dL_law_258 rfl ?_
      refine ev_iload_n dL_law_259 rfl ?_
      refine ev_iconst dL_law_260 ?_
      refine ev_iadd dL_law_261 ?_
      refine ev_sld dL_law_262 (by omega) hL ?_
      refine ev_if_eq 270 dL_law_263 (sx_i32 _ _) (fun _ => ?_) (fun z1 => absurd z0 z1)
      refine ev_iconst dL_law_270 ?_
      refine em_V2 (d_hold l h8 hT1 hm1 (sx_i32 _ _) (by omega)) mL_27 dL_law_271 lay_53 ?_
      rintro r M2 (⟨v2, rfl, rfl⟩ | ⟨v2, rfl, rfl⟩)
      · skip
        have ht : (sx xs ((i : Int) + 1).toNat).toNat < T := by omega
        have eL := ((h.e.gt h.g).2 _ ht).2.2.2.2.2.2.2.1
        refine ev_icmp_self 724 (by rw [up2_row _ _ _ _ (by omega), up2_row _ _ _ _ (by omega), eL]) dL_law_274 ?_
        exact next _ (iv_hold h ht (by omega))
      · exact absurd v1 v2
    · skip
      have hT1 := h.t53
      have hm1 : ∀ t, t < T → M1 56 t = 0 ∨ M1 56 t = 1 := fun t ht => by
        rw [((h.e.gt h.g).2 t ht).2.2.2.2.2.2.2.1]; exact hh t ht
      refine ev_aload_n dL_law_252 rfl ?_
      refine ev_aload_n dL_law_253 rfl ?_
      refine ev_iload_n dL_law_254 rfl ?_
      refine ev_iconst dL_law_255 ?_
      refine ev_iadd dL_law_256 ?_
      refine ev_sld dL_law_257 (by omega) hL ?_
      refine ev_aload_n dL_law_258 rfl ?_
      refine ev_iload_n dL_law_259 rfl ?_
      refine ev_iconst dL_law_260 ?_
      refine ev_iadd dL_law_261 ?_
      refine ev_sld dL_law_262 (by omega) hL ?_
      refine ev_if_eq 270 dL_law_263 (sx_i32 _ _) (fun _ => ?_) (fun z1 => absurd z0 z1)
      refine ev_iconst dL_law_270 ?_
      refine em_V2 (d_hold l h8 hT1 hm1 (sx_i32 _ _) (by omega)) mL_27 dL_law_271 lay_53 ?_
      rintro r M2 (⟨v2, rfl, rfl⟩ | ⟨v2, rfl, rfl⟩)
      · exact absurd v2 v1
      · skip
        refine ev_icmp_self 724 (rfl) dL_law_274 ?_
        exact next _ ⟨M0, T, N, c, h⟩
  · skip
    refine ev_iconst dL_law_244 ?_
    refine ev_goto 249 dL_law_245 ?_
    refine em_V2 (c_hold l h8 h.t5 hh (sx_i32 _ _) (by omega)) mL_23 dL_law_249 lay_0 ?_
    rintro r M1 (⟨v1, rfl, rfl⟩ | ⟨v1, rfl, rfl⟩)
    · skip
      have hT1 : (up2 (up2 M (2 + 2 * (sx xs ((i : Int) + 1).toNat).toNat) 6 1) 0 6 1) 53 0 = (T : Int) := by
        rw [up2_row _ _ _ _ (by omega), up2_row _ _ _ _ (by omega)]; exact h.t53
      have hm1 : ∀ t, t < T → (up2 (up2 M (2 + 2 * (sx xs ((i : Int) + 1).toNat).toNat) 6 1) 0 6 1) 56 t = 0 ∨ (up2 (up2 M (2 + 2 * (sx xs ((i : Int) + 1).toNat).toNat) 6 1) 0 6 1) 56 t = 1 := fun t ht => by
        rw [up2_row _ _ _ _ (by omega), up2_row _ _ _ _ (by omega), ((h.e.gt h.g).2 t ht).2.2.2.2.2.2.2.1]; exact hh t ht
      refine ev_aload_n dL_law_252 rfl ?_
      refine ev_aload_n dL_law_253 rfl ?_
      refine ev_iload_n dL_law_254 rfl ?_
      refine ev_iconst dL_law_255 ?_
      refine ev_iadd dL_law_256 ?_
      refine ev_sld dL_law_257 (by omega) hL ?_
      refine ev_aload_n dL_law_258 rfl ?_
      refine ev_iload_n dL_law_259 rfl ?_
      refine ev_iconst dL_law_260 ?_
      refine ev_iadd dL_law_261 ?_
      refine ev_sld dL_law_262 (by omega) hL ?_
      refine ev_if_eq 270 dL_law_263 (sx_i32 _ _) (fun z1 => absurd z1 z0) (fun _ => ?_)
      refine ev_iconst dL_law_266 ?_
      refine ev_goto 271 dL_law_267 ?_
      refine em_V2 (d_hold l h8 hT1 hm1 (sx_i32 _ _) (by omega)) mL_27 dL_law_271 lay_53 ?_
      rintro r M2 (⟨v2, rfl, rfl⟩ | ⟨v2, rfl, rfl⟩)
      · skip
        have ht : (sx xs ((i : Int) + 1).toNat).toNat < T := by omega
        have eL := ((h.e.gt h.g).2 _ ht).2.2.2.2.2.2.2.1
        refine ev_icmp_self 724 (by rw [up2_row _ _ _ _ (by omega), up2_row _ _ _ _ (by omega), eL]) dL_law_274 ?_
        exact next _ (iv_hold h ht (by omega))
      · exact absurd v1 v2
    · skip
      have hT1 := h.t53
      have hm1 : ∀ t, t < T → M1 56 t = 0 ∨ M1 56 t = 1 := fun t ht => by
        rw [((h.e.gt h.g).2 t ht).2.2.2.2.2.2.2.1]; exact hh t ht
      refine ev_aload_n dL_law_252 rfl ?_
      refine ev_aload_n dL_law_253 rfl ?_
      refine ev_iload_n dL_law_254 rfl ?_
      refine ev_iconst dL_law_255 ?_
      refine ev_iadd dL_law_256 ?_
      refine ev_sld dL_law_257 (by omega) hL ?_
      refine ev_aload_n dL_law_258 rfl ?_
      refine ev_iload_n dL_law_259 rfl ?_
      refine ev_iconst dL_law_260 ?_
      refine ev_iadd dL_law_261 ?_
      refine ev_sld dL_law_262 (by omega) hL ?_
      refine ev_if_eq 270 dL_law_263 (sx_i32 _ _) (fun z1 => absurd z1 z0) (fun _ => ?_)
      refine ev_iconst dL_law_266 ?_
      refine ev_goto 271 dL_law_267 ?_
      refine em_V2 (d_hold l h8 hT1 hm1 (sx_i32 _ _) (by omega)) mL_27 dL_law_271 lay_53 ?_
      rintro r M2 (⟨v2, rfl, rfl⟩ | ⟨v2, rfl, rfl⟩)
      · exact absurd v2 v1
      · skip
        refine ev_icmp_self 724 (rfl) dL_law_274 ?_
        exact next _ ⟨M0, T, N, c, h⟩
theorem lc_cross (l : Launch) {nm : String} {b L : Nat} {xs : Nat → Int32} {i : Nat} {M : Mem} (hL : L ≤ 3584) (hi : i + 7 ≤ L) (hI : Inv M) (next : ∀ M', Inv M' → LW l nm b L xs 724 [some (vR 63), some (vR 0), some (vR 53), some (vI (i : Int))] [] M') : LW l nm b L xs 279 [some (vR 63), some (vR 0), some (vR 53), some (vI (i : Int))] [] M := by
  obtain ⟨M0, T, N, c, h⟩ := hI
  have h8 := h.g.1
  refine ev_aload_n dL_law_279 rfl ?_
  refine ev_aload_n dL_law_280 rfl ?_
  refine ev_iload_n dL_law_281 rfl ?_
  refine ev_iconst dL_law_282 ?_
  refine ev_iadd dL_law_283 ?_
  refine ev_sld dL_law_284 (by omega) hL ?_
  refine ev_aload_n dL_law_285 rfl ?_
  refine ev_iload_n dL_law_286 rfl ?_
  refine ev_iconst dL_law_287 ?_
  refine ev_iadd dL_law_288 ?_
  refine ev_sld dL_law_289 (by omega) hL ?_
  refine ev_aload_n dL_law_290 rfl ?_
  refine ev_iload_n dL_law_291 rfl ?_
  refine ev_iconst dL_law_292 ?_
  refine ev_iadd dL_law_293 ?_
  refine ev_sld dL_law_294 (by omega) hL ?_
  refine ev_aload_n dL_law_295 rfl ?_
  refine ev_iload_n dL_law_296 rfl ?_
  refine ev_iconst dL_law_297 ?_
  refine ev_iadd dL_law_298 ?_
  refine ev_sld dL_law_299 (by omega) hL ?_
  refine em_V4 (c_cross l h (sx_i32 _ _) (sx_i32 _ _) (sx_i32 _ _) (sx_i32 _ _)) mL_28 dL_law_300 lay_0 ?_
  rintro r M1 ⟨h1, rfl⟩
  refine ev_aload_n dL_law_303 rfl ?_
  refine ev_aload_n dL_law_304 rfl ?_
  refine ev_iload_n dL_law_305 rfl ?_
  refine ev_iconst dL_law_306 ?_
  refine ev_iadd dL_law_307 ?_
  refine ev_sld dL_law_308 (by omega) hL ?_
  refine ev_aload_n dL_law_309 rfl ?_
  refine ev_iload_n dL_law_310 rfl ?_
  refine ev_iconst dL_law_311 ?_
  refine ev_iadd dL_law_312 ?_
  refine ev_sld dL_law_313 (by omega) hL ?_
  refine ev_aload_n dL_law_314 rfl ?_
  refine ev_iload_n dL_law_315 rfl ?_
  refine ev_iconst dL_law_316 ?_
  refine ev_iadd dL_law_317 ?_
  refine ev_sld dL_law_318 (by omega) hL ?_
  refine ev_aload_n dL_law_319 rfl ?_
  refine ev_iload_n dL_law_320 rfl ?_
  refine ev_iconst dL_law_321 ?_
  refine ev_iadd dL_law_322 ?_
  refine ev_sld dL_law_323 (by omega) hL ?_
  refine em_V4 (d_cross l h1 (sx_i32 _ _) (sx_i32 _ _) (sx_i32 _ _) (sx_i32 _ _)) mL_32 dL_law_324 lay_53 ?_
  rintro r M2 ⟨h2, rfl⟩
  refine ev_lcmp_self 724 (rfl) dL_law_327 dL_law_328 ?_
  exact next M2 ⟨M0, T, N, c, h2⟩
theorem lc_crosses (l : Launch) {nm : String} {b L : Nat} {xs : Nat → Int32} {i : Nat} {M : Mem} (hL : L ≤ 3584) (hi : i + 7 ≤ L) (hI : Inv M) (next : ∀ M', Inv M' → LW l nm b L xs 724 [some (vR 63), some (vR 0), some (vR 53), some (vI (i : Int))] [] M') : LW l nm b L xs 333 [some (vR 63), some (vR 0), some (vR 53), some (vI (i : Int))] [] M := by
  obtain ⟨M0, T, N, c, h⟩ := hI
  have h8 := h.g.1
  refine ev_aload_n dL_law_333 rfl ?_
  refine ev_aload_n dL_law_334 rfl ?_
  refine ev_iload_n dL_law_335 rfl ?_
  refine ev_iconst dL_law_336 ?_
  refine ev_iadd dL_law_337 ?_
  refine ev_sld dL_law_338 (by omega) hL ?_
  refine ev_aload_n dL_law_339 rfl ?_
  refine ev_iload_n dL_law_340 rfl ?_
  refine ev_iconst dL_law_341 ?_
  refine ev_iadd dL_law_342 ?_
  refine ev_sld dL_law_343 (by omega) hL ?_
  refine em_V2 (c_crosses l h (sx_i32 _ _) (sx_i32 _ _)) mL_33 dL_law_344 lay_0 ?_
  rintro r M1 ⟨h1, rfl⟩
  refine ev_aload_n dL_law_347 rfl ?_
  refine ev_aload_n dL_law_348 rfl ?_
  refine ev_iload_n dL_law_349 rfl ?_
  refine ev_iconst dL_law_350 ?_
  refine ev_iadd dL_law_351 ?_
  refine ev_sld dL_law_352 (by omega) hL ?_
  refine ev_aload_n dL_law_353 rfl ?_
  refine ev_iload_n dL_law_354 rfl ?_
  refine ev_iconst dL_law_355 ?_
  refine ev_iadd dL_law_356 ?_
  refine ev_sld dL_law_357 (by omega) hL ?_
  refine em_V2 (d_crosses l h1 (sx_i32 _ _) (sx_i32 _ _)) mL_37 dL_law_358 lay_53 ?_
  rintro r M2 ⟨h2, rfl⟩
  refine ev_icmp_self 724 (rfl) dL_law_361 ?_
  exact next M2 ⟨M0, T, N, c, h2⟩
theorem lc_difference (l : Launch) {nm : String} {b L : Nat} {xs : Nat → Int32} {i : Nat} {M : Mem} (hL : L ≤ 3584) (hi : i + 7 ≤ L) (hI : Inv M) (next : ∀ M', Inv M' → LW l nm b L xs 724 [some (vR 63), some (vR 0), some (vR 53), some (vI (i : Int))] [] M') : LW l nm b L xs 366 [some (vR 63), some (vR 0), some (vR 53), some (vI (i : Int))] [] M := by
  obtain ⟨M0, T, N, c, h⟩ := hI
  have h8 := h.g.1
  refine ev_aload_n dL_law_366 rfl ?_
  refine ev_aload_n dL_law_367 rfl ?_
  refine ev_iload_n dL_law_368 rfl ?_
  refine ev_iconst dL_law_369 ?_
  refine ev_iadd dL_law_370 ?_
  refine ev_sld dL_law_371 (by omega) hL ?_
  refine ev_aload_n dL_law_372 rfl ?_
  refine ev_iload_n dL_law_373 rfl ?_
  refine ev_iconst dL_law_374 ?_
  refine ev_iadd dL_law_375 ?_
  refine ev_sld dL_law_376 (by omega) hL ?_
  refine em_V2 (c_difference l h (sx_i32 _ _) (sx_i32 _ _)) mL_38 dL_law_377 lay_0 ?_
  rintro r M1 ⟨h1, rfl⟩
  refine ev_aload_n dL_law_380 rfl ?_
  refine ev_aload_n dL_law_381 rfl ?_
  refine ev_iload_n dL_law_382 rfl ?_
  refine ev_iconst dL_law_383 ?_
  refine ev_iadd dL_law_384 ?_
  refine ev_sld dL_law_385 (by omega) hL ?_
  refine ev_aload_n dL_law_386 rfl ?_
  refine ev_iload_n dL_law_387 rfl ?_
  refine ev_iconst dL_law_388 ?_
  refine ev_iadd dL_law_389 ?_
  refine ev_sld dL_law_390 (by omega) hL ?_
  refine em_V2 (d_difference l h1 (sx_i32 _ _) (sx_i32 _ _)) mL_41 dL_law_391 lay_53 ?_
  rintro r M2 ⟨h2, rfl⟩
  refine ev_icmp_self 724 (rfl) dL_law_394 ?_
  exact next M2 ⟨M0, T, N, c, h2⟩
theorem lc_net (l : Launch) {nm : String} {b L : Nat} {xs : Nat → Int32} {i : Nat} {M : Mem} (hL : L ≤ 3584) (hi : i + 7 ≤ L) (hI : Inv M) (next : ∀ M', Inv M' → LW l nm b L xs 724 [some (vR 63), some (vR 0), some (vR 53), some (vI (i : Int))] [] M') : LW l nm b L xs 399 [some (vR 63), some (vR 0), some (vR 53), some (vI (i : Int))] [] M := by
  obtain ⟨M0, T, N, c, h⟩ := hI
  have h8 := h.g.1
  refine ev_aload_n dL_law_399 rfl ?_
  refine ev_aload_n dL_law_400 rfl ?_
  refine ev_iload_n dL_law_401 rfl ?_
  refine ev_iconst dL_law_402 ?_
  refine ev_iadd dL_law_403 ?_
  refine ev_sld dL_law_404 (by omega) hL ?_
  refine em_V1 (c_net l h (sx_i32 _ _)) mL_42 dL_law_405 lay_0 ?_
  rintro r M1 ⟨h1, rfl⟩
  refine ev_aload_n dL_law_408 rfl ?_
  refine ev_aload_n dL_law_409 rfl ?_
  refine ev_iload_n dL_law_410 rfl ?_
  refine ev_iconst dL_law_411 ?_
  refine ev_iadd dL_law_412 ?_
  refine ev_sld dL_law_413 (by omega) hL ?_
  refine em_V1 (d_net l h1 (sx_i32 _ _)) mL_46 dL_law_414 lay_53 ?_
  rintro r M2 ⟨h2, rfl⟩
  refine ev_icmp_self 724 (rfl) dL_law_417 ?_
  exact next M2 ⟨M0, T, N, c, h2⟩
theorem lc_off (l : Launch) {nm : String} {b L : Nat} {xs : Nat → Int32} {i : Nat} {M : Mem} (hL : L ≤ 3584) (hi : i + 7 ≤ L) (hI : Inv M) (next : ∀ M', Inv M' → LW l nm b L xs 724 [some (vR 63), some (vR 0), some (vR 53), some (vI (i : Int))] [] M') : LW l nm b L xs 422 [some (vR 63), some (vR 0), some (vR 53), some (vI (i : Int))] [] M := by
  obtain ⟨M0, T, N, c, h⟩ := hI
  have h8 := h.g.1
  refine ev_aload_n dL_law_422 rfl ?_
  refine ev_aload_n dL_law_423 rfl ?_
  refine ev_iload_n dL_law_424 rfl ?_
  refine ev_iconst dL_law_425 ?_
  refine ev_iadd dL_law_426 ?_
  refine ev_sld dL_law_427 (by omega) hL ?_
  refine ev_aload_n dL_law_428 rfl ?_
  refine ev_iload_n dL_law_429 rfl ?_
  refine ev_iconst dL_law_430 ?_
  refine ev_iadd dL_law_431 ?_
  refine ev_sld dL_law_432 (by omega) hL ?_
  refine em_V2 (c_off l h (sx_i32 _ _) (sx_i32 _ _)) mL_47 dL_law_433 lay_0 ?_
  rintro r M1 ⟨h1, rfl⟩
  refine ev_aload_n dL_law_436 rfl ?_
  refine ev_aload_n dL_law_437 rfl ?_
  refine ev_iload_n dL_law_438 rfl ?_
  refine ev_iconst dL_law_439 ?_
  refine ev_iadd dL_law_440 ?_
  refine ev_sld dL_law_441 (by omega) hL ?_
  refine ev_aload_n dL_law_442 rfl ?_
  refine ev_iload_n dL_law_443 rfl ?_
  refine ev_iconst dL_law_444 ?_
  refine ev_iadd dL_law_445 ?_
  refine ev_sld dL_law_446 (by omega) hL ?_
  refine em_V2 (d_off l h1 (sx_i32 _ _) (sx_i32 _ _)) mL_51 dL_law_447 lay_53 ?_
  rintro r M2 ⟨h2, rfl⟩
  refine ev_lcmp_self 724 (rfl) dL_law_450 dL_law_451 ?_
  exact next M2 ⟨M0, T, N, c, h2⟩
theorem lc_before (l : Launch) {nm : String} {b L : Nat} {xs : Nat → Int32} {i : Nat} {M : Mem} (hL : L ≤ 3584) (hi : i + 7 ≤ L) (hI : Inv M) (next : ∀ M', Inv M' → LW l nm b L xs 724 [some (vR 63), some (vR 0), some (vR 53), some (vI (i : Int))] [] M') : LW l nm b L xs 456 [some (vR 63), some (vR 0), some (vR 53), some (vI (i : Int))] [] M := by
  obtain ⟨M0, T, N, c, h⟩ := hI
  have h8 := h.g.1
  refine ev_aload_n dL_law_456 rfl ?_
  refine em_V0 (c_before l h ) mL_52 dL_law_457 lay_0 ?_
  rintro r M1 ⟨h1, rfl⟩
  refine ev_aload_n dL_law_460 rfl ?_
  refine em_V0 (d_befor l h1 ) mL_56 dL_law_461 lay_53 ?_
  rintro r M2 ⟨h2, rfl⟩
  refine ev_lcmp_self 724 (rfl) dL_law_464 dL_law_465 ?_
  exact next M2 ⟨M0, T, N, c, h2⟩
theorem lc_behind (l : Launch) {nm : String} {b L : Nat} {xs : Nat → Int32} {i : Nat} {M : Mem} (hL : L ≤ 3584) (hi : i + 7 ≤ L) (hI : Inv M) (next : ∀ M', Inv M' → LW l nm b L xs 724 [some (vR 63), some (vR 0), some (vR 53), some (vI (i : Int))] [] M') : LW l nm b L xs 470 [some (vR 63), some (vR 0), some (vR 53), some (vI (i : Int))] [] M := by
  obtain ⟨M0, T, N, c, h⟩ := hI
  have h8 := h.g.1
  refine ev_aload_n dL_law_470 rfl ?_
  refine em_V0 (c_behind l h ) mL_57 dL_law_471 lay_0 ?_
  rintro r M1 ⟨h1, rfl⟩
  refine ev_aload_n dL_law_474 rfl ?_
  refine em_V0 (d_behind l h1 ) mL_60 dL_law_475 lay_53 ?_
  rintro r M2 ⟨h2, rfl⟩
  refine ev_lcmp_self 724 (rfl) dL_law_478 dL_law_479 ?_
  exact next M2 ⟨M0, T, N, c, h2⟩
theorem lc_loop (l : Launch) {nm : String} {b L : Nat} {xs : Nat → Int32} {i : Nat} {M : Mem} (hL : L ≤ 3584) (hi : i + 7 ≤ L) (hI : Inv M) (next : ∀ M', Inv M' → LW l nm b L xs 724 [some (vR 63), some (vR 0), some (vR 53), some (vI (i : Int))] [] M') : LW l nm b L xs 484 [some (vR 63), some (vR 0), some (vR 53), some (vI (i : Int))] [] M := by
  obtain ⟨M0, T, N, c, h⟩ := hI
  have h8 := h.g.1
  refine ev_aload_n dL_law_484 rfl ?_
  refine ev_aload_n dL_law_485 rfl ?_
  refine ev_iload_n dL_law_486 rfl ?_
  refine ev_iconst dL_law_487 ?_
  refine ev_iadd dL_law_488 ?_
  refine ev_sld dL_law_489 (by omega) hL ?_
  refine ev_aload_n dL_law_490 rfl ?_
  refine ev_iload_n dL_law_491 rfl ?_
  refine ev_iconst dL_law_492 ?_
  refine ev_iadd dL_law_493 ?_
  refine ev_sld dL_law_494 (by omega) hL ?_
  refine ev_aload_n dL_law_495 rfl ?_
  refine ev_iload_n dL_law_496 rfl ?_
  refine ev_iconst dL_law_497 ?_
  refine ev_iadd dL_law_498 ?_
  refine ev_sld dL_law_499 (by omega) hL ?_
  refine em_V3 (c_loop l h (sx_i32 _ _) (sx_i32 _ _) (sx_i32 _ _)) mL_61 dL_law_500 lay_0 ?_
  rintro r M1 ⟨h1, rfl⟩
  refine ev_aload_n dL_law_503 rfl ?_
  refine ev_aload_n dL_law_504 rfl ?_
  refine ev_iload_n dL_law_505 rfl ?_
  refine ev_iconst dL_law_506 ?_
  refine ev_iadd dL_law_507 ?_
  refine ev_sld dL_law_508 (by omega) hL ?_
  refine ev_aload_n dL_law_509 rfl ?_
  refine ev_iload_n dL_law_510 rfl ?_
  refine ev_iconst dL_law_511 ?_
  refine ev_iadd dL_law_512 ?_
  refine ev_sld dL_law_513 (by omega) hL ?_
  refine ev_aload_n dL_law_514 rfl ?_
  refine ev_iload_n dL_law_515 rfl ?_
  refine ev_iconst dL_law_516 ?_
  refine ev_iadd dL_law_517 ?_
  refine ev_sld dL_law_518 (by omega) hL ?_
  refine em_V3 (d_loop l h1 (sx_i32 _ _) (sx_i32 _ _) (sx_i32 _ _)) mL_64 dL_law_519 lay_53 ?_
  rintro r M2 ⟨h2, rfl⟩
  refine ev_icmp_self 724 (rfl) dL_law_522 ?_
  exact next M2 ⟨M0, T, N, c, h2⟩
theorem lc_tone (l : Launch) {nm : String} {b L : Nat} {xs : Nat → Int32} {i : Nat} {M : Mem} (hL : L ≤ 3584) (hi : i + 7 ≤ L) (hI : Inv M) (next : ∀ M', Inv M' → LW l nm b L xs 724 [some (vR 63), some (vR 0), some (vR 53), some (vI (i : Int))] [] M') : LW l nm b L xs 527 [some (vR 63), some (vR 0), some (vR 53), some (vI (i : Int))] [] M := by
  obtain ⟨M0, T, N, c, h⟩ := hI
  have h8 := h.g.1
  refine ev_aload_n dL_law_527 rfl ?_
  refine ev_aload_n dL_law_528 rfl ?_
  refine ev_iload_n dL_law_529 rfl ?_
  refine ev_iconst dL_law_530 ?_
  refine ev_iadd dL_law_531 ?_
  refine ev_sld dL_law_532 (by omega) hL ?_
  refine em_V1 (c_tone l h.n6 h.n50 (sx_i32 _ _)) mL_65 dL_law_533 lay_0 ?_
  rintro r M1 ⟨rfl, q1⟩
  have hT1 : M1 53 4 = (N : Int) := by
    rcases q1 with ⟨-, q⟩ | ⟨-, q⟩
    · rw [q, up2_row _ _ _ _ (by omega), up2_row _ _ _ _ (by omega)]; exact h.n53
    · rw [q]; exact h.n53
  refine ev_aload_n dL_law_536 rfl ?_
  refine ev_aload_n dL_law_537 rfl ?_
  refine ev_iload_n dL_law_538 rfl ?_
  refine ev_iconst dL_law_539 ?_
  refine ev_iadd dL_law_540 ?_
  refine ev_sld dL_law_541 (by omega) hL ?_
  refine em_V1 (d_tone l h.n6 hT1 (sx_i32 _ _)) mL_68 dL_law_542 lay_53 ?_
  rintro r M2 ⟨rfl, q2⟩
  refine ev_icmp_self 724 (rfl) dL_law_545 ?_
  exact next M2 (st_tone h q1 q2)
theorem lc_seen (l : Launch) {nm : String} {b L : Nat} {xs : Nat → Int32} {i : Nat} {M : Mem} (hL : L ≤ 3584) (hi : i + 7 ≤ L) (hI : Inv M) (next : ∀ M', Inv M' → LW l nm b L xs 724 [some (vR 63), some (vR 0), some (vR 53), some (vI (i : Int))] [] M') : LW l nm b L xs 550 [some (vR 63), some (vR 0), some (vR 53), some (vI (i : Int))] [] M := by
  obtain ⟨M0, T, N, c, h⟩ := hI
  have h8 := h.g.1
  refine ev_aload_n dL_law_550 rfl ?_
  refine ev_aload_n dL_law_551 rfl ?_
  refine ev_iload_n dL_law_552 rfl ?_
  refine ev_iconst dL_law_553 ?_
  refine ev_iadd dL_law_554 ?_
  refine ev_sld dL_law_555 (by omega) hL ?_
  refine ev_aload_n dL_law_556 rfl ?_
  refine ev_iload_n dL_law_557 rfl ?_
  refine ev_iconst dL_law_558 ?_
  refine ev_iadd dL_law_559 ?_
  refine ev_sld dL_law_560 (by omega) hL ?_
  refine ev_aload_n dL_law_561 rfl ?_
  refine ev_iload_n dL_law_562 rfl ?_
  refine ev_iconst dL_law_563 ?_
  refine ev_iadd dL_law_564 ?_
  refine ev_sld dL_law_565 (by omega) hL ?_
  refine em_V3 (c_seen l h (sx_i32 _ _) (sx_i32 _ _) (sx_i32 _ _)) mL_69 dL_law_566 lay_0 ?_
  rintro r M1 ⟨h1, rfl⟩
  refine ev_aload_n dL_law_569 rfl ?_
  refine ev_aload_n dL_law_570 rfl ?_
  refine ev_iload_n dL_law_571 rfl ?_
  refine ev_iconst dL_law_572 ?_
  refine ev_iadd dL_law_573 ?_
  refine ev_sld dL_law_574 (by omega) hL ?_
  refine ev_aload_n dL_law_575 rfl ?_
  refine ev_iload_n dL_law_576 rfl ?_
  refine ev_iconst dL_law_577 ?_
  refine ev_iadd dL_law_578 ?_
  refine ev_sld dL_law_579 (by omega) hL ?_
  refine ev_aload_n dL_law_580 rfl ?_
  refine ev_iload_n dL_law_581 rfl ?_
  refine ev_iconst dL_law_582 ?_
  refine ev_iadd dL_law_583 ?_
  refine ev_sld dL_law_584 (by omega) hL ?_
  refine em_V3 (d_seen l h1 (sx_i32 _ _) (sx_i32 _ _) (sx_i32 _ _)) mL_73 dL_law_585 lay_53 ?_
  rintro r M2 ⟨h2, rfl⟩
  refine ev_lcmp_self 724 (rfl) dL_law_588 dL_law_589 ?_
  exact next M2 ⟨M0, T, N, c, h2⟩
theorem lc_apart (l : Launch) {nm : String} {b L : Nat} {xs : Nat → Int32} {i : Nat} {M : Mem} (hL : L ≤ 3584) (hi : i + 7 ≤ L) (hI : Inv M) (next : ∀ M', Inv M' → LW l nm b L xs 724 [some (vR 63), some (vR 0), some (vR 53), some (vI (i : Int))] [] M') : LW l nm b L xs 594 [some (vR 63), some (vR 0), some (vR 53), some (vI (i : Int))] [] M := by
  obtain ⟨M0, T, N, c, h⟩ := hI
  have h8 := h.g.1
  refine ev_aload_n dL_law_594 rfl ?_
  refine ev_aload_n dL_law_595 rfl ?_
  refine ev_iload_n dL_law_596 rfl ?_
  refine ev_iconst dL_law_597 ?_
  refine ev_iadd dL_law_598 ?_
  refine ev_sld dL_law_599 (by omega) hL ?_
  refine ev_aload_n dL_law_600 rfl ?_
  refine ev_iload_n dL_law_601 rfl ?_
  refine ev_iconst dL_law_602 ?_
  refine ev_iadd dL_law_603 ?_
  refine ev_sld dL_law_604 (by omega) hL ?_
  refine ev_aload_n dL_law_605 rfl ?_
  refine ev_iload_n dL_law_606 rfl ?_
  refine ev_iconst dL_law_607 ?_
  refine ev_iadd dL_law_608 ?_
  refine ev_sld dL_law_609 (by omega) hL ?_
  refine ev_aload_n dL_law_610 rfl ?_
  refine ev_iload_n dL_law_611 rfl ?_
  refine ev_iconst dL_law_612 ?_
  refine ev_iadd dL_law_613 ?_
  refine ev_sld dL_law_614 (by omega) hL ?_
  refine em_V4 (c_apart l h (sx_i32 _ _) (sx_i32 _ _) (sx_i32 _ _) (sx_i32 _ _)) mL_74 dL_law_615 lay_0 ?_
  rintro r M1 ⟨h1, rfl⟩
  refine ev_aload_n dL_law_618 rfl ?_
  refine ev_aload_n dL_law_619 rfl ?_
  refine ev_iload_n dL_law_620 rfl ?_
  refine ev_iconst dL_law_621 ?_
  refine ev_iadd dL_law_622 ?_
  refine ev_sld dL_law_623 (by omega) hL ?_
  refine ev_aload_n dL_law_624 rfl ?_
  refine ev_iload_n dL_law_625 rfl ?_
  refine ev_iconst dL_law_626 ?_
  refine ev_iadd dL_law_627 ?_
  refine ev_sld dL_law_628 (by omega) hL ?_
  refine ev_aload_n dL_law_629 rfl ?_
  refine ev_iload_n dL_law_630 rfl ?_
  refine ev_iconst dL_law_631 ?_
  refine ev_iadd dL_law_632 ?_
  refine ev_sld dL_law_633 (by omega) hL ?_
  refine ev_aload_n dL_law_634 rfl ?_
  refine ev_iload_n dL_law_635 rfl ?_
  refine ev_iconst dL_law_636 ?_
  refine ev_iadd dL_law_637 ?_
  refine ev_sld dL_law_638 (by omega) hL ?_
  refine em_V4 (d_apart l h1 (sx_i32 _ _) (sx_i32 _ _) (sx_i32 _ _) (sx_i32 _ _)) mL_78 dL_law_639 lay_53 ?_
  rintro r M2 ⟨h2, rfl⟩
  refine ev_icmp_self 724 (rfl) dL_law_642 ?_
  exact next M2 ⟨M0, T, N, c, h2⟩
theorem lc_box (l : Launch) {nm : String} {b L : Nat} {xs : Nat → Int32} {i : Nat} {M : Mem} (hL : L ≤ 3584) (hi : i + 7 ≤ L) (hI : Inv M) (next : ∀ M', Inv M' → LW l nm b L xs 724 [some (vR 63), some (vR 0), some (vR 53), some (vI (i : Int))] [] M') : LW l nm b L xs 647 [some (vR 63), some (vR 0), some (vR 53), some (vI (i : Int))] [] M := by
  obtain ⟨M0, T, N, c, h⟩ := hI
  have h8 := h.g.1
  refine ev_aload_n dL_law_647 rfl ?_
  refine ev_aload_n dL_law_648 rfl ?_
  refine ev_iload_n dL_law_649 rfl ?_
  refine ev_iconst dL_law_650 ?_
  refine ev_iadd dL_law_651 ?_
  refine ev_sld dL_law_652 (by omega) hL ?_
  refine ev_aload_n dL_law_653 rfl ?_
  refine ev_iload_n dL_law_654 rfl ?_
  refine ev_iconst dL_law_655 ?_
  refine ev_iadd dL_law_656 ?_
  refine ev_sld dL_law_657 (by omega) hL ?_
  refine ev_aload_n dL_law_658 rfl ?_
  refine ev_iload_n dL_law_659 rfl ?_
  refine ev_iconst dL_law_660 ?_
  refine ev_iadd dL_law_661 ?_
  refine ev_sld dL_law_662 (by omega) hL ?_
  refine ev_aload_n dL_law_663 rfl ?_
  refine ev_iload_n dL_law_664 rfl ?_
  refine ev_iconst dL_law_665 ?_
  refine ev_iadd dL_law_666 ?_
  refine ev_sld dL_law_667 (by omega) hL ?_
  refine em_V4 (c_box l h (sx_i32 _ _) (sx_i32 _ _) (sx_i32 _ _) (sx_i32 _ _)) mL_79 dL_law_668 lay_0 ?_
  rintro r M1 ⟨h1, rfl⟩
  refine ev_aload_n dL_law_671 rfl ?_
  refine ev_aload_n dL_law_672 rfl ?_
  refine ev_iload_n dL_law_673 rfl ?_
  refine ev_iconst dL_law_674 ?_
  refine ev_iadd dL_law_675 ?_
  refine ev_sld dL_law_676 (by omega) hL ?_
  refine ev_aload_n dL_law_677 rfl ?_
  refine ev_iload_n dL_law_678 rfl ?_
  refine ev_iconst dL_law_679 ?_
  refine ev_iadd dL_law_680 ?_
  refine ev_sld dL_law_681 (by omega) hL ?_
  refine ev_aload_n dL_law_682 rfl ?_
  refine ev_iload_n dL_law_683 rfl ?_
  refine ev_iconst dL_law_684 ?_
  refine ev_iadd dL_law_685 ?_
  refine ev_sld dL_law_686 (by omega) hL ?_
  refine ev_aload_n dL_law_687 rfl ?_
  refine ev_iload_n dL_law_688 rfl ?_
  refine ev_iconst dL_law_689 ?_
  refine ev_iadd dL_law_690 ?_
  refine ev_sld dL_law_691 (by omega) hL ?_
  refine em_V4 (d_box l h1 (sx_i32 _ _) (sx_i32 _ _) (sx_i32 _ _) (sx_i32 _ _)) mL_82 dL_law_692 lay_53 ?_
  rintro r M2 ⟨h2, rfl⟩
  refine ev_lcmp_self 724 (rfl) dL_law_695 dL_law_696 ?_
  exact next M2 ⟨M0, T, N, c, h2⟩
theorem lc_count (l : Launch) {nm : String} {b L : Nat} {xs : Nat → Int32} {i : Nat} {M : Mem} (hL : L ≤ 3584) (hi : i + 7 ≤ L) (hI : Inv M) (next : ∀ M', Inv M' → LW l nm b L xs 724 [some (vR 63), some (vR 0), some (vR 53), some (vI (i : Int))] [] M') : LW l nm b L xs 701 [some (vR 63), some (vR 0), some (vR 53), some (vI (i : Int))] [] M := by
  obtain ⟨M0, T, N, c, h⟩ := hI
  have h8 := h.g.1
  refine ev_aload_n dL_law_701 rfl ?_
  refine ev_aload_n dL_law_702 rfl ?_
  refine ev_iload_n dL_law_703 rfl ?_
  refine ev_iconst dL_law_704 ?_
  refine ev_iadd dL_law_705 ?_
  refine ev_sld dL_law_706 (by omega) hL ?_
  refine em_V1 (c_count l h (sx_i32 _ _)) mL_83 dL_law_707 lay_0 ?_
  rintro r M1 ⟨h1, rfl⟩
  refine ev_aload_n dL_law_710 rfl ?_
  refine ev_aload_n dL_law_711 rfl ?_
  refine ev_iload_n dL_law_712 rfl ?_
  refine ev_iconst dL_law_713 ?_
  refine ev_iadd dL_law_714 ?_
  refine ev_sld dL_law_715 (by omega) hL ?_
  refine em_V1 (d_count l h1 (sx_i32 _ _)) mL_86 dL_law_716 lay_53 ?_
  rintro r M2 ⟨h2, rfl⟩
  refine ev_icmp_self 724 (rfl) dL_law_719 ?_
  exact next M2 ⟨M0, T, N, c, h2⟩
theorem law_loop (l : Launch) {nm : String} {b L : Nat} {xs : Nat → Int32} (hL : L ≤ 3584) : ∀ (m i : Nat) (M : Mem), L + 7 < i + 7 * m + 7 → i ≤ L + 7 → Inv M → LW l nm b L xs 18 [some (vR 63), some (vR 0), some (vR 53), some (vI (i : Int))] [] M := by
  intro m
  induction m with
  | zero =>
    intro i M h1 h2 hI
    refine ev_iload_n dL_law_18 rfl ?_
    refine ev_aload_n dL_law_19 rfl ?_
    refine ev_slen dL_law_20 ?_
    refine ev_bipush dL_law_21 (by decide) ?_
    refine ev_isub dL_law_23 ?_
    refine ev_icmp_gt 730 dL_law_24 (by omega) (by omega) (fun _ => ?_) (fun q => by omega)
    refine ev_iconst dL_law_730 ?_
    exact ev_lawret dL_law_731 (by decide) (by decide)
  | succ m ih =>
    intro i M h1 h2 hI
    refine ev_iload_n dL_law_18 rfl ?_
    refine ev_aload_n dL_law_19 rfl ?_
    refine ev_slen dL_law_20 ?_
    refine ev_bipush dL_law_21 (by decide) ?_
    refine ev_isub dL_law_23 ?_
    refine ev_icmp_gt 730 dL_law_24 (by omega) (by omega) (fun _ => ?_) (fun q => ?_)
    · refine ev_iconst dL_law_730 ?_
      exact ev_lawret dL_law_731 (by decide) (by decide)
    · have hi : i + 7 ≤ L := by omega
      have next : ∀ M', Inv M' → LW l nm b L xs 724 [some (vR 63), some (vR 0), some (vR 53), some (vI (i : Int))] [] M' := fun M' hI' => by
        refine ev_iinc dL_law_724 rfl (by decide) ?_
        refine ev_ls [some (vR _), some (vR _), some (vR _), some (vI _)] rfl ?_
        refine ev_goto 18 dL_law_727 ?_
        exact ih (i + 7) M' (by omega) (by omega) hI'
      refine ev_aload_n dL_law_27 rfl ?_
      refine ev_iload_n dL_law_28 rfl ?_
      refine ev_sld dL_law_29 (by omega) hL ?_
      refine ev_bipush dL_law_30 (by decide) ?_
      refine ev_and15 dL_law_32 (fun w w0 w1 => ?_)
      rcases (show w = 0 ∨ w = 1 ∨ w = 2 ∨ w = 3 ∨ w = 4 ∨ w = 5 ∨ w = 6 ∨ w = 7 ∨ w = 8 ∨ w = 9 ∨ w = 10 ∨ w = 11 ∨ w = 12 ∨ w = 13 ∨ w = 14 ∨ w = 15 by omega) with rfl | rfl | rfl | rfl | rfl | rfl | rfl | rfl | rfl | rfl | rfl | rfl | rfl | rfl | rfl | rfl
      · exact ev_tabIn 112 dL_law_33 (by omega) (by omega) (by omega) rfl (lc_track l hL hi hI next)
      · exact ev_tabIn 187 dL_law_33 (by omega) (by omega) (by omega) rfl (lc_read l hL hi hI next)
      · exact ev_tabIn 230 dL_law_33 (by omega) (by omega) (by omega) rfl (lc_hold l hL hi hI next)
      · exact ev_tabIn 279 dL_law_33 (by omega) (by omega) (by omega) rfl (lc_cross l hL hi hI next)
      · exact ev_tabIn 333 dL_law_33 (by omega) (by omega) (by omega) rfl (lc_crosses l hL hi hI next)
      · exact ev_tabIn 366 dL_law_33 (by omega) (by omega) (by omega) rfl (lc_difference l hL hi hI next)
      · exact ev_tabIn 399 dL_law_33 (by omega) (by omega) (by omega) rfl (lc_net l hL hi hI next)
      · exact ev_tabIn 422 dL_law_33 (by omega) (by omega) (by omega) rfl (lc_off l hL hi hI next)
      · exact ev_tabIn 456 dL_law_33 (by omega) (by omega) (by omega) rfl (lc_before l hL hi hI next)
      · exact ev_tabIn 470 dL_law_33 (by omega) (by omega) (by omega) rfl (lc_behind l hL hi hI next)
      · exact ev_tabIn 484 dL_law_33 (by omega) (by omega) (by omega) rfl (lc_loop l hL hi hI next)
      · exact ev_tabIn 527 dL_law_33 (by omega) (by omega) (by omega) rfl (lc_tone l hL hi hI next)
      · exact ev_tabIn 550 dL_law_33 (by omega) (by omega) (by omega) rfl (lc_seen l hL hi hI next)
      · exact ev_tabIn 594 dL_law_33 (by omega) (by omega) (by omega) rfl (lc_apart l hL hi hI next)
      · exact ev_tabIn 647 dL_law_33 (by omega) (by omega) (by omega) rfl (lc_box l hL hi hI next)
      · exact ev_tabIn 701 dL_law_33 (by omega) (by omega) (by omega) rfl (lc_count l hL hi hI next)
