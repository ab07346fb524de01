-- ===== PART A: goes FIRST, ahead of the names: the tables' words, and 'selects' of the private methods out of them =====
/-- a private method of a class that the tables say can be made, by its rows of tables_1 -/
def lw_okq (q : MethodName × Nat) : Prop := (q.1.cls ≠ "java/lang/invoke/MethodHandle" ∧ q.1.cls ≠ "java/lang/invoke/VarHandle") ∧ Cond.instantiable q.1.cls q.2 ∈ tables_1 ∧ Cond.privateMethod q.1 ∈ tables_1 ∧ Cond.instanceMethod q.1 ∈ tables_1
theorem lw_p0 : lw_okq (⟨"TrackCrossings", "isTrack", "(I)Z"⟩, 7) := ⟨⟨by decide +kernel, by decide +kernel⟩, List.mem_of_getElem? (i := 10) (by decide +kernel), List.mem_of_getElem? (i := 211) (by decide +kernel), List.mem_of_getElem? (i := 212) (by decide +kernel)⟩
theorem lw_p1 : lw_okq (⟨"TrackCrossings", "areTwoTracks", "(II)Z"⟩, 7) := ⟨⟨by decide +kernel, by decide +kernel⟩, List.mem_of_getElem? (i := 10) (by decide +kernel), List.mem_of_getElem? (i := 224) (by decide +kernel), List.mem_of_getElem? (i := 225) (by decide +kernel)⟩
theorem lw_p2 : lw_okq (⟨"TrackCrossings", "bringClosingUpToDate", "()V"⟩, 7) := ⟨⟨by decide +kernel, by decide +kernel⟩, List.mem_of_getElem? (i := 10) (by decide +kernel), List.mem_of_getElem? (i := 284) (by decide +kernel), List.mem_of_getElem? (i := 285) (by decide +kernel)⟩
theorem lw_p3 : lw_okq (⟨"TrackCrossings$Closing", "startAnew", "()V"⟩, 12) := ⟨⟨by decide +kernel, by decide +kernel⟩, List.mem_of_getElem? (i := 81) (by decide +kernel), List.mem_of_getElem? (i := 292) (by decide +kernel), List.mem_of_getElem? (i := 293) (by decide +kernel)⟩
theorem lw_p4 : lw_okq (⟨"TrackCrossings$Closing", "takeDifference", "(III)V"⟩, 12) := ⟨⟨by decide +kernel, by decide +kernel⟩, List.mem_of_getElem? (i := 81) (by decide +kernel), List.mem_of_getElem? (i := 298) (by decide +kernel), List.mem_of_getElem? (i := 299) (by decide +kernel)⟩
theorem lw_p5 : lw_okq (⟨"TrackCrossings$Closing", "joinNets", "(II)V"⟩, 12) := ⟨⟨by decide +kernel, by decide +kernel⟩, List.mem_of_getElem? (i := 81) (by decide +kernel), List.mem_of_getElem? (i := 303) (by decide +kernel), List.mem_of_getElem? (i := 304) (by decide +kernel)⟩
theorem lw_p6 : lw_okq (⟨"TrackCrossings$Closing", "gatherMembers", "(II)I"⟩, 12) := ⟨⟨by decide +kernel, by decide +kernel⟩, List.mem_of_getElem? (i := 81) (by decide +kernel), List.mem_of_getElem? (i := 313) (by decide +kernel), List.mem_of_getElem? (i := 314) (by decide +kernel)⟩
theorem lw_p7 : lw_okq (⟨"TrackCrossings$Closing", "settleNet", "(I)V"⟩, 12) := ⟨⟨by decide +kernel, by decide +kernel⟩, List.mem_of_getElem? (i := 81) (by decide +kernel), List.mem_of_getElem? (i := 317) (by decide +kernel), List.mem_of_getElem? (i := 318) (by decide +kernel)⟩
theorem lw_p8 : lw_okq (⟨"TrackCrossings$Closing", "fillRows", "(I)V"⟩, 12) := ⟨⟨by decide +kernel, by decide +kernel⟩, List.mem_of_getElem? (i := 81) (by decide +kernel), List.mem_of_getElem? (i := 321) (by decide +kernel), List.mem_of_getElem? (i := 322) (by decide +kernel)⟩
theorem lw_p9 : lw_okq (⟨"TrackCrossings$Closing", "addToRows", "(IIII)V"⟩, 12) := ⟨⟨by decide +kernel, by decide +kernel⟩, List.mem_of_getElem? (i := 81) (by decide +kernel), List.mem_of_getElem? (i := 325) (by decide +kernel), List.mem_of_getElem? (i := 326) (by decide +kernel)⟩
theorem lw_p10 : lw_okq (⟨"TrackCrossings$Closing", "solveRows", "(I)J"⟩, 12) := ⟨⟨by decide +kernel, by decide +kernel⟩, List.mem_of_getElem? (i := 81) (by decide +kernel), List.mem_of_getElem? (i := 329) (by decide +kernel), List.mem_of_getElem? (i := 330) (by decide +kernel)⟩
theorem lw_p11 : lw_okq (⟨"TrackCrossings$Closing", "clearRow", "(IIIJ)V"⟩, 12) := ⟨⟨by decide +kernel, by decide +kernel⟩, List.mem_of_getElem? (i := 81) (by decide +kernel), List.mem_of_getElem? (i := 333) (by decide +kernel), List.mem_of_getElem? (i := 334) (by decide +kernel)⟩
theorem lw_p12 : lw_okq (⟨"TrackCrossings$Closing", "tellOffs", "(IJ)V"⟩, 12) := ⟨⟨by decide +kernel, by decide +kernel⟩, List.mem_of_getElem? (i := 81) (by decide +kernel), List.mem_of_getElem? (i := 337) (by decide +kernel), List.mem_of_getElem? (i := 338) (by decide +kernel)⟩
theorem lw_p13 : lw_okq (⟨"TrackCrossings$Closing", "addClosed", "(IJ)V"⟩, 12) := ⟨⟨by decide +kernel, by decide +kernel⟩, List.mem_of_getElem? (i := 81) (by decide +kernel), List.mem_of_getElem? (i := 341) (by decide +kernel), List.mem_of_getElem? (i := 342) (by decide +kernel)⟩
theorem lw_p14 : lw_okq (⟨"TrackCrossings$Track", "isIn", "(IIII)Z"⟩, 8) := ⟨⟨by decide +kernel, by decide +kernel⟩, List.mem_of_getElem? (i := 19) (by decide +kernel), List.mem_of_getElem? (i := 410) (by decide +kernel), List.mem_of_getElem? (i := 411) (by decide +kernel)⟩
theorem lw_p15 : lw_okq (⟨"TrackCrossings", "countReadings", "()I"⟩, 7) := ⟨⟨by decide +kernel, by decide +kernel⟩, List.mem_of_getElem? (i := 10) (by decide +kernel), List.mem_of_getElem? (i := 431) (by decide +kernel), List.mem_of_getElem? (i := 432) (by decide +kernel)⟩
def lw_privs_1 : List (MethodName × Nat) := [(⟨"TrackCrossings", "isTrack", "(I)Z"⟩, 7), (⟨"TrackCrossings", "areTwoTracks", "(II)Z"⟩, 7), (⟨"TrackCrossings", "bringClosingUpToDate", "()V"⟩, 7), (⟨"TrackCrossings$Closing", "startAnew", "()V"⟩, 12), (⟨"TrackCrossings$Closing", "takeDifference", "(III)V"⟩, 12), (⟨"TrackCrossings$Closing", "joinNets", "(II)V"⟩, 12), (⟨"TrackCrossings$Closing", "gatherMembers", "(II)I"⟩, 12), (⟨"TrackCrossings$Closing", "settleNet", "(I)V"⟩, 12), (⟨"TrackCrossings$Closing", "fillRows", "(I)V"⟩, 12), (⟨"TrackCrossings$Closing", "addToRows", "(IIII)V"⟩, 12), (⟨"TrackCrossings$Closing", "solveRows", "(I)J"⟩, 12), (⟨"TrackCrossings$Closing", "clearRow", "(IIIJ)V"⟩, 12), (⟨"TrackCrossings$Closing", "tellOffs", "(IJ)V"⟩, 12), (⟨"TrackCrossings$Closing", "addClosed", "(IJ)V"⟩, 12), (⟨"TrackCrossings$Track", "isIn", "(IIII)Z"⟩, 8), (⟨"TrackCrossings", "countReadings", "()I"⟩, 7)]
theorem lw_r1 : ∀ q ∈ lw_privs_1, lw_okq q := List.forall_mem_cons.mpr ⟨lw_p0, List.forall_mem_cons.mpr ⟨lw_p1, List.forall_mem_cons.mpr ⟨lw_p2, List.forall_mem_cons.mpr ⟨lw_p3, List.forall_mem_cons.mpr ⟨lw_p4, List.forall_mem_cons.mpr ⟨lw_p5, List.forall_mem_cons.mpr ⟨lw_p6, List.forall_mem_cons.mpr ⟨lw_p7, List.forall_mem_cons.mpr ⟨lw_p8, List.forall_mem_cons.mpr ⟨lw_p9, List.forall_mem_cons.mpr ⟨lw_p10, List.forall_mem_cons.mpr ⟨lw_p11, List.forall_mem_cons.mpr ⟨lw_p12, List.forall_mem_cons.mpr ⟨lw_p13, List.forall_mem_cons.mpr ⟨lw_p14, List.forall_mem_cons.mpr ⟨lw_p15, fun _ h => absurd h List.not_mem_nil⟩⟩⟩⟩⟩⟩⟩⟩⟩⟩⟩⟩⟩⟩⟩⟩
theorem lw_p16 : lw_okq (⟨"TrackCrossings", "countHeldOut", "()I"⟩, 7) := ⟨⟨by decide +kernel, by decide +kernel⟩, List.mem_of_getElem? (i := 10) (by decide +kernel), List.mem_of_getElem? (i := 435) (by decide +kernel), List.mem_of_getElem? (i := 436) (by decide +kernel)⟩
theorem lw_p17 : lw_okq (⟨"TrackCrossingsModel", "isTrack", "(I)Z"⟩, 18) := ⟨⟨by decide +kernel, by decide +kernel⟩, List.mem_of_getElem? (i := 439) (by decide +kernel), List.mem_of_getElem? (i := 519) (by decide +kernel), List.mem_of_getElem? (i := 520) (by decide +kernel)⟩
theorem lw_p18 : lw_okq (⟨"TrackCrossingsModel", "meet", "(II)Z"⟩, 18) := ⟨⟨by decide +kernel, by decide +kernel⟩, List.mem_of_getElem? (i := 439) (by decide +kernel), List.mem_of_getElem? (i := 537) (by decide +kernel), List.mem_of_getElem? (i := 538) (by decide +kernel)⟩
theorem lw_p19 : lw_okq (⟨"TrackCrossingsModel", "between", "(JJJ)J"⟩, 18) := ⟨⟨by decide +kernel, by decide +kernel⟩, List.mem_of_getElem? (i := 439) (by decide +kernel), List.mem_of_getElem? (i := 542) (by decide +kernel), List.mem_of_getElem? (i := 543) (by decide +kernel)⟩
theorem lw_p20 : lw_okq (⟨"TrackCrossingsModel", "hasHeight", "(IJ)Z"⟩, 18) := ⟨⟨by decide +kernel, by decide +kernel⟩, List.mem_of_getElem? (i := 439) (by decide +kernel), List.mem_of_getElem? (i := 552) (by decide +kernel), List.mem_of_getElem? (i := 553) (by decide +kernel)⟩
theorem lw_p21 : lw_okq (⟨"TrackCrossingsModel", "differ", "(II)Z"⟩, 18) := ⟨⟨by decide +kernel, by decide +kernel⟩, List.mem_of_getElem? (i := 439) (by decide +kernel), List.mem_of_getElem? (i := 566) (by decide +kernel), List.mem_of_getElem? (i := 567) (by decide +kernel)⟩
theorem lw_p22 : lw_okq (⟨"TrackCrossingsModel", "nets", "()V"⟩, 18) := ⟨⟨by decide +kernel, by decide +kernel⟩, List.mem_of_getElem? (i := 439) (by decide +kernel), List.mem_of_getElem? (i := 579) (by decide +kernel), List.mem_of_getElem? (i := 580) (by decide +kernel)⟩
theorem lw_p23 : lw_okq (⟨"TrackCrossingsModel", "members", "(I)I"⟩, 18) := ⟨⟨by decide +kernel, by decide +kernel⟩, List.mem_of_getElem? (i := 439) (by decide +kernel), List.mem_of_getElem? (i := 583) (by decide +kernel), List.mem_of_getElem? (i := 584) (by decide +kernel)⟩
theorem lw_p24 : lw_okq (⟨"TrackCrossingsModel", "offs", "()V"⟩, 18) := ⟨⟨by decide +kernel, by decide +kernel⟩, List.mem_of_getElem? (i := 439) (by decide +kernel), List.mem_of_getElem? (i := 592) (by decide +kernel), List.mem_of_getElem? (i := 593) (by decide +kernel)⟩
theorem lw_p25 : lw_okq (⟨"TrackCrossingsModel", "solves", "(I)V"⟩, 18) := ⟨⟨by decide +kernel, by decide +kernel⟩, List.mem_of_getElem? (i := 439) (by decide +kernel), List.mem_of_getElem? (i := 596) (by decide +kernel), List.mem_of_getElem? (i := 597) (by decide +kernel)⟩
theorem lw_p26 : lw_okq (⟨"TrackCrossingsModel", "clears", "(IIJ)V"⟩, 18) := ⟨⟨by decide +kernel, by decide +kernel⟩, List.mem_of_getElem? (i := 439) (by decide +kernel), List.mem_of_getElem? (i := 600) (by decide +kernel), List.mem_of_getElem? (i := 601) (by decide +kernel)⟩
theorem lw_p27 : lw_okq (⟨"TrackCrossingsModel", "backs", "(IJ)V"⟩, 18) := ⟨⟨by decide +kernel, by decide +kernel⟩, List.mem_of_getElem? (i := 439) (by decide +kernel), List.mem_of_getElem? (i := 604) (by decide +kernel), List.mem_of_getElem? (i := 605) (by decide +kernel)⟩
theorem lw_p28 : lw_okq (⟨"TrackCrossingsModel", "offOf", "(I)V"⟩, 18) := ⟨⟨by decide +kernel, by decide +kernel⟩, List.mem_of_getElem? (i := 439) (by decide +kernel), List.mem_of_getElem? (i := 608) (by decide +kernel), List.mem_of_getElem? (i := 609) (by decide +kernel)⟩
theorem lw_p29 : lw_okq (⟨"TrackCrossingsModel", "isTone", "(I)Z"⟩, 18) := ⟨⟨by decide +kernel, by decide +kernel⟩, List.mem_of_getElem? (i := 439) (by decide +kernel), List.mem_of_getElem? (i := 633) (by decide +kernel), List.mem_of_getElem? (i := 634) (by decide +kernel)⟩
def lw_privs_2 : List (MethodName × Nat) := [(⟨"TrackCrossings", "countHeldOut", "()I"⟩, 7), (⟨"TrackCrossingsModel", "isTrack", "(I)Z"⟩, 18), (⟨"TrackCrossingsModel", "meet", "(II)Z"⟩, 18), (⟨"TrackCrossingsModel", "between", "(JJJ)J"⟩, 18), (⟨"TrackCrossingsModel", "hasHeight", "(IJ)Z"⟩, 18), (⟨"TrackCrossingsModel", "differ", "(II)Z"⟩, 18), (⟨"TrackCrossingsModel", "nets", "()V"⟩, 18), (⟨"TrackCrossingsModel", "members", "(I)I"⟩, 18), (⟨"TrackCrossingsModel", "offs", "()V"⟩, 18), (⟨"TrackCrossingsModel", "solves", "(I)V"⟩, 18), (⟨"TrackCrossingsModel", "clears", "(IIJ)V"⟩, 18), (⟨"TrackCrossingsModel", "backs", "(IJ)V"⟩, 18), (⟨"TrackCrossingsModel", "offOf", "(I)V"⟩, 18), (⟨"TrackCrossingsModel", "isTone", "(I)Z"⟩, 18)]
theorem lw_r2 : ∀ q ∈ lw_privs_2, lw_okq q := List.forall_mem_cons.mpr ⟨lw_p16, List.forall_mem_cons.mpr ⟨lw_p17, List.forall_mem_cons.mpr ⟨lw_p18, List.forall_mem_cons.mpr ⟨lw_p19, List.forall_mem_cons.mpr ⟨lw_p20, List.forall_mem_cons.mpr ⟨lw_p21, List.forall_mem_cons.mpr ⟨lw_p22, List.forall_mem_cons.mpr ⟨lw_p23, List.forall_mem_cons.mpr ⟨lw_p24, List.forall_mem_cons.mpr ⟨lw_p25, List.forall_mem_cons.mpr ⟨lw_p26, List.forall_mem_cons.mpr ⟨lw_p27, List.forall_mem_cons.mpr ⟨lw_p28, List.forall_mem_cons.mpr ⟨lw_p29, fun _ h => absurd h List.not_mem_nil⟩⟩⟩⟩⟩⟩⟩⟩⟩⟩⟩⟩⟩⟩
def lw_privs : List (MethodName × Nat) := lw_privs_1 ++ (lw_privs_2)
def lw_tbl : List Cond := k2_sels lw_privs ++ tables_1
theorem lw_privs_ok : ∀ q ∈ lw_privs, lw_okq q := by
  show ∀ q ∈ lw_privs_1 ++ (lw_privs_2), lw_okq q
  exact List.forall_mem_append.mpr ⟨lw_r1, lw_r2⟩
/-! ===== BEGIN words of one list among another's, by their places ===== -/
theorem goodIn_r {big : List Cond} (ws : List Cond) (ps : List Nat) (hp : ws = ps.filterMap (fun i => big[i]?)) (h : ws.all goodWord = true) : GoodIn big ws := by
  intro w hw
  have h1 := List.all_eq_true.mp h w hw
  rw [hp] at hw
  obtain ⟨i, -, hi⟩ := List.mem_filterMap.mp hw
  have hm : w ∈ big := by first | exact List.mem_of_getElem? hi | exact List.getElem?_mem hi
  exact ⟨hm, good_of_word h1⟩
theorem goodIn_app {big a b : List Cond} (ha : GoodIn big a) (hb : GoodIn big b) : GoodIn big (a ++ b) := fun w h => (List.mem_append.mp h).elim (ha w) (hb w)
theorem goodIn_ca {big a b : List Cond} {c : Cond} (ha : GoodIn big (c :: a)) (hb : GoodIn big b) : GoodIn big (c :: (a ++ b)) := fun w h => (List.mem_cons.mp h).elim (fun e => ha w (List.mem_cons.mpr (Or.inl e))) (fun h => (List.mem_append.mp h).elim (fun h => ha w (List.mem_cons.mpr (Or.inr h))) (hb w))
theorem goodIn_sub {big ws : List Cond} (hm : ∀ w ∈ ws, w ∈ big) (h : ws.all goodWord = true) : GoodIn big ws := fun w hw => ⟨hm w hw, good_of_word (List.all_eq_true.mp h w hw)⟩
/-! ===== END ===== -/

/-! ===== BEGIN new T[n][m]: the outer array a place, the inner ones among the pooled ===== -/
/-- f, but v at every address of l -/
def vr_up {α : Type} (f : Nat → α) (l : List Nat) (v : α) : Nat → α := fun a => if a ∈ l then v else f a
theorem vr_up_in {α : Type} {f : Nat → α} {l : List Nat} {v : α} {a : Nat} (h : a ∈ l) : vr_up f l v a = v := if_pos h
theorem vr_up_ne {α : Type} {f : Nat → α} {l : List Nat} {v : α} {a : Nat} (h : a ∉ l) : vr_up f l v a = f a := if_neg h
theorem vr_rows {L l : List Nat} {f : Nat → va_E} {e : va_E} (h : ∀ a, a ∈ l → a ∉ L) : va_pl L f ++ l.map (fun a => (a, e)) = va_pl (L ++ l) (vr_up f l e) := by
  unfold va_pl
  rw [List.map_append]
  congr 1
  · apply List.map_congr_left
    intro a ha
    rw [vr_up_ne (fun q => h a q ha)]
  · apply List.map_congr_left
    intro a ha
    rw [vr_up_in ha]
theorem vr_lay {X rows : va_W} {x : Nat × va_E} {pl : va_W} {D : va_G} {cl : List vw_C} {H : Heap} (hP : va_P D cl (((X ++ pl) ++ [x]) ++ rows) H) : va_P D cl ((X ++ [x]) ++ (pl ++ rows)) H := by
  rw [List.append_assoc (X ++ pl)] at hP
  have h := va_P.swap hP
  rw [← List.append_assoc X] at h
  have h2 := va_P.swap h
  rw [List.append_assoc (X ++ [x])] at h2
  exact h2
theorem vr_layD {X rows : va_W} {x : Nat × va_E} {pl : va_W} {A : Nat → Prop} (hD : va_D A (((X ++ pl) ++ [x]) ++ rows)) : va_D A ((X ++ [x]) ++ (pl ++ rows)) := by
  rw [List.append_assoc (X ++ pl)] at hD
  have h := va_D.swap hD
  rw [← List.append_assoc X] at h
  have h2 := va_D.swap h
  rw [List.append_assoc (X ++ [x])] at h2
  exact h2
section GX
/-- a fresh row of a grid -/
def gx_row (cy : ClassId) (M : Nat) (dv : Value) : Cell := arrV cy M (fun _ => dv)
/-- a grid's outer array at a, the first i of its rows laid right behind it -/
def gx_out (cA : ClassId) (N a i : Nat) : Cell := arrV cA N (fun j => va_rf (if j < i then some (a + 1 + j) else none))
/-- the heap H with a grid's outer array and i rows behind it -/
def gx_H (H : Heap) (cA cy : ClassId) (N M : Nat) (dv : Value) (i : Nat) : Heap := H.push (gx_out cA N H.size i) ++ Array.replicate i (gx_row cy M dv)
/-- the state T with them -/
def gx_S (T : State) (cA cy : ClassId) (N M : Nat) (dv : Value) (i : Nat) : State := { T with heap := gx_H T.heap cA cy N M dv i, slotsUsed := T.slotsUsed + N + i * M }
variable {cA cy : ClassId} {N M i : Nat} {dv : Value}
theorem gx_H_size {H : Heap} : (gx_H H cA cy N M dv i).size = H.size + 1 + i := by
  simp [gx_H]
theorem gx_H_old {H : Heap} {x : Nat} (hx : x < H.size) : (gx_H H cA cy N M dv i)[x]? = H[x]? := by
  unfold gx_H
  rw [Array.getElem?_append_left (by rw [Array.size_push]; omega), Array.getElem?_push, if_neg (by omega)]
theorem gx_H_out {H : Heap} : (gx_H H cA cy N M dv i)[H.size]? = some (gx_out cA N H.size i) := by
  unfold gx_H
  rw [Array.getElem?_append_left (by rw [Array.size_push]; omega), Array.getElem?_push, if_pos rfl]
theorem gx_H_row {H : Heap} {j : Nat} (hj : j < i) : (gx_H H cA cy N M dv i)[H.size + 1 + j]? = some (gx_row cy M dv) := by
  unfold gx_H
  rw [Array.getElem?_append_right (by rw [Array.size_push]; omega), Array.size_push, show H.size + 1 + j - (H.size + 1) = j by omega, Array.getElem?_replicate, if_pos hj]
theorem gx_H_next {H : Heap} : ((gx_H H cA cy N M dv i).push (gx_row cy M dv)).setIfInBounds H.size (gx_out cA N H.size (i + 1)) = gx_H H cA cy N M dv (i + 1) := by
  apply Array.ext_getElem?
  intro x
  have hs : ((gx_H H cA cy N M dv i).push (gx_row cy M dv)).size = H.size + 1 + i + 1 := by rw [Array.size_push, gx_H_size]
  rw [Array.getElem?_setIfInBounds]
  by_cases h0 : H.size = x
  · subst h0
    rw [if_pos rfl, if_pos (by rw [hs]; omega), gx_H_out]
  · rw [if_neg h0, Array.getElem?_push, gx_H_size]
    rcases Nat.lt_or_gt_of_ne h0 with h1 | h1
    · obtain ⟨j, rfl⟩ : ∃ j, x = H.size + 1 + j := ⟨x - H.size - 1, by omega⟩
      by_cases h2 : j < i
      · rw [if_neg (by omega), gx_H_row h2, gx_H_row (by omega)]
      · by_cases h3 : j = i
        · rw [if_pos (by omega), gx_H_row (by omega)]
        · rw [if_neg (by omega), Array.getElem?_eq_none (by rw [gx_H_size]; omega), Array.getElem?_eq_none (by rw [gx_H_size]; omega)]
    · rw [if_neg (by omega), gx_H_old h1, gx_H_old h1]
theorem gx_out_next {a : Nat} : (gx_out cA N a i).setSlot i (.ref (a + 1 + i)) = gx_out cA N a (i + 1) := by
  unfold gx_out
  rw [arrV_store]
  refine congrArg (arrV cA N) (funext fun j => ?_)
  unfold updV
  by_cases h : j = i
  · subst h
    rw [if_pos rfl, if_pos (Nat.lt_succ_self _)]
    rfl
  · rw [if_neg h]
    show va_rf (if j < i then some (a + 1 + j) else none) = _
    by_cases h2 : j < i
    · rw [if_pos h2, if_pos (by omega)]
    · rw [if_neg h2, if_neg (by omega)]
theorem gx_S_first {T : State} : T.pushCell (gx_out cA N T.heap.size 0) = gx_S T cA cy N M dv 0 := by
  unfold State.pushCell gx_S gx_H
  have e : (gx_out cA N T.heap.size 0).slots.size = N := arrV_size _ _ _
  simp [e]
theorem gx_S_next {T : State} : ((gx_S T cA cy N M dv i).pushCell (gx_row cy M dv)).setCell T.heap.size ((gx_out cA N T.heap.size i).setSlot i (.ref (T.heap.size + 1 + i))) = gx_S T cA cy N M dv (i + 1) := by
  rw [gx_out_next]
  have e : (gx_row cy M dv).slots.size = M := arrV_size _ _ _
  have e2 : T.slotsUsed + N + i * M + M = T.slotsUsed + N + (i + 1) * M := by rw [Nat.succ_mul]; omega
  unfold State.pushCell State.setCell gx_S
  simp only [e, e2, gx_H_next]
section
variable {p : Program} {l : Launch} {e : Env} {R : Room} {s : State} {m : MethodId} {args : Array Value} {below : List Frame} {meth : Method} {c : Code} {T : State} {locs : List Loc} {cells slots : Nat}
theorem gx_stand (X : Stand p l e R s m args below meth c T locs cells slots) : ∀ i : Nat, Stand p l e R s m args below meth c (gx_S T cA cy N M dv i) locs (cells + 1 + i) (slots + N + i * M)
  | 0 => by
    have h := X.pushed (gx_out cA N T.heap.size 0)
    rw [show (gx_out cA N T.heap.size 0).slots.size = N from arrV_size _ _ _, gx_S_first (cy := cy) (M := M) (dv := dv)] at h
    rw [Nat.zero_mul]
    exact h
  | i + 1 => by
    have h := (gx_stand X i).pushed (gx_row cy M dv)
    rw [show (gx_row cy M dv).slots.size = M from arrV_size _ _ _] at h
    have ho : ((gx_S T cA cy N M dv i).pushCell (gx_row cy M dv)).heap[T.heap.size]? = some (gx_out cA N T.heap.size i) := by
      show ((gx_H T.heap cA cy N M dv i).push (gx_row cy M dv))[T.heap.size]? = _
      rw [Array.getElem?_push, gx_H_size, if_neg (by omega), gx_H_out]
    have h2 := (h.stored ho i (.ref (T.heap.size + 1 + i))).dropFresh (fun x hx => by
      rw [List.mem_singleton.mp hx]
      exact X.heapGrown)
    rw [gx_S_next] at h2
    rw [show slots + N + (i + 1) * M = slots + N + i * M + M by rw [Nat.succ_mul]; omega]
    exact h2
end
/-- what the tables say of an array over arrays -/
theorem gx_over {ty : FieldType} {A : Array Value} {U : State} (h : (Cond.arrayOver (.array ty)).before A U = true) :
    ∃ (cy cA : ClassId) (k : Class), U.vm.findClass (FieldType.array ty).toString = some cy ∧ U.vm.classes[cA]? = some k ∧ k.kind = .array cy (.array ty) ∧ U.vm.findClass ("[" ++ (FieldType.array ty).toString) = some cA := by
  unfold Cond.before Cond.holds at h
  simp only [Cond.value] at h
  obtain ⟨cy, h1, h⟩ := Option.bind_eq_some_iff.mp (eq_of_beq h)
  obtain ⟨cA, h2, h⟩ := Option.bind_eq_some_iff.mp h
  obtain ⟨k, h3, h4⟩ := Option.map_eq_some_iff.mp h
  have h5 := (Array.findIdx?_eq_some_iff_getElem.mp h2).2.1
  rw [(Array.getElem?_eq_some_iff.mp h3).2] at h5
  refine ⟨cy, cA, k, h1, h3, ?_⟩
  generalize k.kind = kd at h4 h5 ⊢
  cases kd <;> simp_all
/-- it is kept, where the tables are alike -/
theorem gx_over_alike {ty : FieldType} {A : Array Value} {u U : State} (hvm : u.vm.Alike U.vm) (h : (Cond.arrayOver (.array ty)).before A u = true) : (Cond.arrayOver (.array ty)).before A U = true := by
  have e := Cond.arrayOver_setVmC (args := A) hvm (.array ty)
  rw [h] at e
  exact e
section
variable {E : CtlPost} {e : Env} {d : Bool} {acts : List Action} {s : State}
/-- a counting loop whose round i leads from st i to st (i + 1) -/
theorem gx_loop {f : Nat → PUnit → Sem (ForInStep PUnit)} {st : Nat → State}
    (hf : ∀ (i : Nat) (d : Bool) (acts : List Action) (Q : ForInStep PUnit → Pre), i < N → (∀ d' acts', Q (.yield PUnit.unit) d' acts' (st (i + 1))) → wp (f i PUnit.unit) Q E e d acts (st i)) {Q : PUnit → Pre} (hq : ∀ d' acts', Q PUnit.unit d' acts' (st N)) :
    ∀ (r i : Nat) (d : Bool) (acts : List Action), i + r = N → wp (forIn (List.range' i r 1) PUnit.unit f) Q E e d acts (st i)
  | 0, i, d, acts, h => by
    have h' : i = N := h
    subst h'
    simp only [List.range'_zero, List.forIn_nil, wp_pure']
    exact hq _ _
  | r + 1, i, d, acts, h => by
    simp only [List.range'_succ, List.forIn_cons, wp_bind']
    exact hf i d acts _ (by omega) (fun d' acts' => gx_loop hf hq r (i + 1) d' acts' (by omega))
/-- one row is made -/
theorem gx_wrow {cz : ClassId} {k : Class} {ty : FieldType} {n : Int32} (hk : s.vm.classes[cy]? = some k) (hkind : k.kind = .array cz ty) (hn : ¬ n < 0) (h1 : ¬ n.toNatClampNeg > e.platform.arrayLengthLimit) (h2 : ¬ n.toNatClampNeg * componentBytes ty > e.platform.maxHeapBytes)
    (h3 : s.heap.size < e.platform.maxCells) (h4 : s.slotsUsed + n.toNatClampNeg ≤ e.platform.maxSlots) (hdf : fits ty (defaultValue ty) = true) {Q : Addr → Pre} (hq : ∀ acts', Q s.heap.size d acts' (s.pushCell (gx_row cy n.toNatClampNeg (defaultValue ty)))) :
    wp (Op.multianewarray.make cy [n]) Q E e d acts s := by
  unfold Op.multianewarray.make
  simp only [wp_bind', Jvm.W.ite, hn, if_false, wp_pure', Jvm.W.theClass, hk, hkind, Option.some.injEq, exists_eq_left']
  refine Jvm.W.newArray_of hk hkind h1 h2 h3 h4 hdf (fun acts' => ?_)
  have := hq acts'
  unfold gx_row at this
  rw [← arrV_new] at this
  exact this
/-- a grid is made -/
theorem gx_wgrid {cz : ClassId} {kA k : Class} {ty : FieldType} {n q : Int32} (hkA : s.vm.classes[cA]? = some kA) (hkindA : kA.kind = .array cy (.array ty)) (hk : s.vm.classes[cy]? = some k) (hkind : k.kind = .array cz ty) (hn : ¬ n < 0) (hq0 : ¬ q < 0)
    (h1 : ¬ n.toNatClampNeg > e.platform.arrayLengthLimit) (h2 : ¬ n.toNatClampNeg * componentBytes (.array ty) > e.platform.maxHeapBytes) (h3 : ¬ q.toNatClampNeg > e.platform.arrayLengthLimit) (h4 : ¬ q.toNatClampNeg * componentBytes ty > e.platform.maxHeapBytes)
    (h5 : s.heap.size + 1 + n.toNatClampNeg ≤ e.platform.maxCells) (h6 : s.slotsUsed + n.toNatClampNeg + n.toNatClampNeg * q.toNatClampNeg ≤ e.platform.maxSlots) (hdf : fits ty (defaultValue ty) = true)
    {Q : Addr → Pre} (hq : ∀ d' acts', Q s.heap.size d' acts' (gx_S s cA cy n.toNatClampNeg q.toNatClampNeg (defaultValue ty) n.toNatClampNeg)) : wp (Op.multianewarray.make cA [n, q]) Q E e d acts s := by
  have hfn : ([q].find? (· < 0)) = none := by simp [hq0]
  unfold Op.multianewarray.make
  simp only [wp_bind', Jvm.W.ite, hn, if_false, wp_pure', Jvm.W.theClass, hkA, hkindA, Option.some.injEq, exists_eq_left']
  refine Jvm.W.newArray_of hkA hkindA h1 h2 (by omega) (by omega) rfl (fun acts' => ?_)
  have e0 : s.pushCell { cls := cA, slots := Array.replicate n.toNatClampNeg .null } = gx_S s cA cy n.toNatClampNeg q.toNatClampNeg (defaultValue ty) 0 := by
    rw [← gx_S_first]
    refine congrArg s.pushCell ((arrV_new cA n.toNatClampNeg .null).trans (congrArg (arrV cA n.toNatClampNeg) (funext fun j => ?_)))
    rw [if_neg (Nat.not_lt_zero j)]
    rfl
  rw [e0]
  simp only [hfn, ite_self, wp_bind', wp_pure', Std.Legacy.Range.forIn_eq_forIn_range']
  rw [show ([:n.toNatClampNeg] : Std.Legacy.Range).size = n.toNatClampNeg by simp [Std.Legacy.Range.size]]
  refine gx_loop (st := gx_S s cA cy n.toNatClampNeg q.toNatClampNeg (defaultValue ty)) (fun i d9 acts9 Q9 hi h9 => ?_) (fun d9 acts9 => ?_) _ 0 _ _ (Nat.zero_add _)
  · have hm : (i + 1) * q.toNatClampNeg ≤ n.toNatClampNeg * q.toNatClampNeg := Nat.mul_le_mul_right _ hi
    rw [Nat.succ_mul] at hm
    have hz : (gx_S s cA cy n.toNatClampNeg q.toNatClampNeg (defaultValue ty) i).heap.size = s.heap.size + 1 + i := gx_H_size
    simp only [wp_bind']
    refine gx_wrow (s := gx_S s cA cy n.toNatClampNeg q.toNatClampNeg (defaultValue ty) i) hk hkind hq0 h3 h4 (by rw [hz]; omega) (by show s.slotsUsed + n.toNatClampNeg + i * q.toNatClampNeg + q.toNatClampNeg ≤ _; omega) hdf (fun acts8 => ?_)
    simp only [wp_bind', Jvm.W.writeLoc, wp_pure']
    refine ⟨gx_out cA n.toNatClampNeg s.heap.size i, ?_, (fun h => by cases h), by rw [show (gx_out cA n.toNatClampNeg s.heap.size i).slots.size = n.toNatClampNeg from arrV_size _ _ _]; exact hi, ?_, ?_⟩
    · show ((gx_H s.heap cA cy n.toNatClampNeg q.toNatClampNeg (defaultValue ty) i).push _)[s.heap.size]? = _
      rw [Array.getElem?_push, gx_H_size, if_neg (by omega), gx_H_out]
    · show State.fitsSlot ((gx_S s cA cy n.toNatClampNeg q.toNatClampNeg (defaultValue ty) i).pushCell _) cA .none i _ = true
      have hv : (gx_S s cA cy n.toNatClampNeg q.toNatClampNeg (defaultValue ty) i).vm.classes[cA]? = some kA := hkA
      simp [State.fitsSlot, State.slotType?, hv, hkindA, fits]
    · rw [hz, gx_S_next]
      exact h9 _ _
  · simp only [wp_pure']
    exact hq _ _
end
section
variable {p : Program} {l : Launch} {e : Env} {R : Room} {s : State} {m : MethodId} {args : Array Value} {below : List Frame} {meth : Method} {c : Code} {T : State} {locs : List Loc} {cells slots : Nat}
/-- new T[n][q], in the stand's form -/
theorem gx_step (X : Stand p l e R s m args below meth c T locs cells slots) (hexec : p.tables.exec = Jvm.exec) {own : String} {index : Nat} {ty : FieldType} (hown : s.vm.findClass own = some m.cls) (hclink : (Cond.classLink own index ("[" ++ (FieldType.array ty).toString)).before args s = true)
    (hover : (Cond.arrayOver (.array ty)).before args s = true) (harr : (Cond.arrayClass ty).before args s = true) {g : JFrame} (hg : g.method = m) (hdg : decode c.code g.pc = .ok (.multianewarray index 2, 4)) {n q : Int32} {rest : List Value} (hstack : g.stack = .int q :: .int n :: rest)
    (hn : ¬ n < 0) (hq : ¬ q < 0) (hb1 : n.toNatClampNeg * 4 ≤ 536870912) (hb2 : q.toNatClampNeg * componentBytes ty ≤ 536870912) (hb3 : q.toNatClampNeg ≤ 536870912) (hdf : fits ty (defaultValue ty) = true)
    (hcells : cells + (1 + n.toNatClampNeg) ≤ R.cells) (hslots : slots + (n.toNatClampNeg + n.toNatClampNeg * q.toNatClampNeg) ≤ R.slots) :
    ∃ (vm1 : Vm) (cA cy : ClassId) (kA : Class), s.vm.findClass ("[" ++ (FieldType.array ty).toString) = some cA ∧ s.vm.findClass (FieldType.array ty).toString = some cy ∧ s.vm.classes[cA]? = some kA ∧ kA.kind = .array cy (.array ty) ∧
      Stand p l e R s m args below meth c (gx_S (T.setVm vm1) cA cy n.toNatClampNeg q.toNatClampNeg (defaultValue ty) n.toNatClampNeg) locs (cells + 1 + n.toNatClampNeg) (slots + n.toNatClampNeg + n.toNatClampNeg * q.toNatClampNeg) ∧
      ∀ target, Steps p.tables e below ((gx_S (T.setVm vm1) cA cy n.toNatClampNeg q.toNatClampNeg (defaultValue ty) n.toNatClampNeg).setTop { g with pc := g.pc + 4, stack := .ref T.heap.size :: rest }) target → Steps p.tables e below (T.setTop g) target := by
  subst hg
  obtain ⟨cy, cA, kA, f1, f2, f3, f4⟩ := gx_over hover
  obtain ⟨cy', ky, cz, f5, f6, f7⟩ := Cond.arrayClass_spec harr
  have ey : cy' = cy := Option.some.inj (f5.symm.trans f1)
  subst ey
  obtain ⟨c0, f8, hcl⟩ := Cond.classLink_spec hown hclink e.platform (by rw [X.admits.platform])
  have ec : c0 = cA := Option.some.inj (f8.symm.trans f4)
  subst ec
  obtain ⟨hgv, hw, -⟩ := State.classEntry (e := e) X.warmed hcl
  generalize T.vm.noted g.method.cls index (.cls c0) = vm1 at hgv hw
  obtain ⟨kA1, f9, f10⟩ := hw.alike.2.2 _ _ f2
  obtain ⟨ky1, f11, f12⟩ := hw.alike.2.2 _ _ f6
  have X1 := X.noted hw
  have X2 := gx_stand (cA := c0) (cy := cy') (N := n.toNatClampNeg) (M := q.toNatClampNeg) (dv := defaultValue ty) X1 n.toNatClampNeg
  obtain ⟨r1, r2⟩ := X.roomAbove hcells hslots
  refine ⟨vm1, c0, cy', kA, f4, f1, f2, f3, X2, fun target hrest => ?_⟩
  have p1 := Launch.admits_arrayLengthLimit X.admits
  have p2 := Launch.admits_maxHeapBytes X.admits
  jvm_step X.here [hexec, hdg]
  unfold Op.multianewarray.sem
  simp only [wp_bind']
  rw [Jvm.W.resolveClassAt_links (State.method?_setTop g X.here.top) hgv, wp_bind']
  refine (popN_top (s := T.setVm vm1) (f := g) (args := [.int n, .int q]) (rest := rest) X1.here.top hstack).mpr ?_
  simp only [List.mapM_cons, List.mapM_nil, wp_bind', wp_pure']
  refine gx_wgrid (s := (T.setVm vm1).setTop { g with stack := rest }) (kA := kA1) (k := ky1) (cz := cz) f9 (by rw [f10]; exact f3) f11 (by rw [f12]; exact f7) hn hq (by rw [p1]; omega) (by rw [p2]; show ¬ n.toNatClampNeg * 4 > 536870912; omega) (by rw [p1]; omega) (by rw [p2]; omega) (by show T.heap.size + 1 + _ ≤ _; omega) (by show T.slotsUsed + _ + _ ≤ _; omega) hdf (fun d9 acts9 => ?_)
  have es : gx_S ((T.setVm vm1).setTop { g with stack := rest }) c0 cy' n.toNatClampNeg q.toNatClampNeg (defaultValue ty) n.toNatClampNeg = (gx_S (T.setVm vm1) c0 cy' n.toNatClampNeg q.toNatClampNeg (defaultValue ty) n.toNatClampNeg).setTop { g with stack := rest } := rfl
  rw [es]
  simp only [wp_bind', Jvm.W.mark, Jvm.W.pushRef, State.topJava?_setTop' _ X2.here.top, Option.some.injEq, exists_eq_left', State.setTop_setTop, State.heap_setTop]
  intro acts8
  simp [jvm, X2.here.top]
  exact hrest
end
end GX
/-- an array over arrays, as the tables say it -/
def va_AOA (ty : FieldType) (U : State) : Prop := (Cond.arrayOver (.array ty)).before #[] U = true
theorem va_AOA.use {ty : FieldType} {A : Array Value} {U : State} (h : va_AOA ty U) : (Cond.arrayOver (.array ty)).before A U = true := h
section VGM
variable {p : Program} {l : Launch} {e : Env} {R : Room} {s : State} {m : MethodId} {args : Array Value} {below : List Frame} {meth : Method} {c : Code} {H : Heap} {locs : List Loc} {cells slots : Nat} {Q : State → Prop}
variable {cc : ByteArray} {pc : Nat} {ls : Array Slot} {rest : List Value} {D : va_G} {cl : List vw_C} {A : Nat → Prop} {a : Nat} {tys : List (ClassId × FieldType)} {ws : va_W} {H0 : Heap}
theorem gx_mna {X : va_W} {L : List Nat} {f : Nat → va_E} {cc : ByteArray} (hexec : p.tables.exec = Jvm.exec) (hb : c.code = cc) {own : String} {index : Nat} {ty : FieldType} {cy : ClassId} (hown : s.vm.findClass own = some m.cls) (hclink : (Cond.classLink own index ("[" ++ (FieldType.array ty).toString)).before args s = true) (hover : va_AOA ty s) (harr : (Cond.arrayClass ty).before args s = true) (hcy : s.vm.findClass (FieldType.array ty).toString = some cy)
    (hK : va_K D cl tys s) (hP : va_P D cl (X ++ va_pl L f) H) (hD : va_D A (X ++ va_pl L f)) (hS : va_S A H0 H locs) (hA : ∀ q, H0.size ≤ q → A q) {n k : Int32} {N' K' : Nat} {z : vp_A} (hn : ¬ n < 0) (hk : ¬ k < 0) (hN : n.toNatClampNeg = N') (hM : k.toNatClampNeg = K')
    (hb1 : N' * 4 ≤ 536870912) (hb2 : K' * componentBytes ty ≤ 536870912) (hb3 : K' ≤ 536870912) (hdf : fits ty (defaultValue ty) = true) (hcells : cells + (1 + N') ≤ R.cells) (hslots : slots + (N' + N' * K') ≤ R.slots) (hz : ∀ c : ClassId, gx_row c K' (defaultValue ty) = vp_cell c z) (hdg : decode cc pc = .ok (.multianewarray index 2, 4))
    (kk : ∀ (q : Nat) (r : Nat → Nat) (cA : ClassId) (H1 : Heap), (∀ i j : Nat, i < N' → j < N' → r i = r j → i = j) → (∀ i : Nat, i < N' → r i ∉ L) → va_K D cl (tys ++ [(cA, .array ty)]) s →
      va_P D cl ((X ++ [(q, .inl (cA, N', .inr (.inr (.inr (.inr (fun i => if i < N' then some (r i) else none))))))]) ++ va_pl (L ++ (List.range N').map r) (vr_up f ((List.range N').map r) (.inl (cy, z)))) H1 → va_D A ((X ++ [(q, .inl (cA, N', .inr (.inr (.inr (.inr (fun i => if i < N' then some (r i) else none))))))]) ++ va_pl (L ++ (List.range N').map r) (vr_up f ((List.range N').map r) (.inl (cy, z)))) → va_S A H0 H1 locs →
      W p l e R s m args below meth c H1 locs (cells + 1 + N') (slots + N' + N' * K') Q (F0 m (pc + 4) ls (.ref q :: rest))) : W p l e R s m args below meth c H locs cells slots Q (F0 m pc ls (.int k :: .int n :: rest)) := by
  subst hN
  subst hM
  intro T hT Xs
  obtain ⟨vm₁, cA, comp, kA, fA, fC, fk, fkk, X', step⟩ := gx_step Xs hexec hown hclink (va_AOA.use hover) harr (g := F0 m pc ls (.int k :: .int n :: rest)) rfl (by rw [hb]; exact hdg) rfl hn hk hb1 hb2 hb3 hdf hcells hslots
  have ec : some cy = some comp := hcy.symm.trans fC
  cases ec
  have hFh : (gx_S (T.setVm vm₁) cA cy n.toNatClampNeg k.toNatClampNeg (defaultValue ty) n.toNatClampNeg).heap = gx_H H cA cy n.toNatClampNeg k.toNatClampNeg (defaultValue ty) n.toNatClampNeg := by
    show gx_H T.heap cA cy n.toNatClampNeg k.toNatClampNeg (defaultValue ty) n.toNatClampNeg = _
    rw [hT]
  generalize gx_S (T.setVm vm₁) cA cy n.toNatClampNeg k.toNatClampNeg (defaultValue ty) n.toNatClampNeg = F at X' step hFh
  have f1 : F.heap.size = H.size + 1 + n.toNatClampNeg := by rw [hFh]; exact gx_H_size
  have f2 : F.heap[H.size]? = some (vp_cell cA (n.toNatClampNeg, .inr (.inr (.inr (.inr (fun i => if i < n.toNatClampNeg then some (H.size + 1 + i) else none)))))) := by rw [hFh]; exact gx_H_out
  have hold : ∀ x : Nat, x < H.size → F.heap[x]? = H[x]? := fun x hx => by rw [hFh]; exact gx_H_old hx
  have hrow : ∀ j : Nat, j < n.toNatClampNeg → F.heap[H.size + 1 + j]? = some (vp_cell cy z) := fun j hj => by rw [hFh, ← hz]; exact gx_H_row hj
  have hlt : ∀ a, a ∈ L → a < H.size := fun a ha => by
    obtain ⟨k9, hk9⟩ := va_pl_get (X := X) (f := f) ha
    exact (hP k9 _ hk9).lt
  have hnl : ∀ i : Nat, i < n.toNatClampNeg → H.size + 1 + i ∉ L := fun i _ h => by
    have := hlt _ h
    omega
  have hnm : ∀ a, a ∈ (List.range n.toNatClampNeg).map (fun i => H.size + 1 + i) → a ∉ L := fun a ha h => by
    obtain ⟨i, -, rfl⟩ := List.mem_map.mp ha
    have := hlt _ h
    omega
  have hP0 : va_P D cl (X ++ va_pl L f) F.heap := hP.kept (fun k9 x hx => hold x.1 ((hP k9 x hx).lt))
  have hP1 : va_P D cl ((X ++ va_pl L f) ++ [(H.size, .inl (cA, n.toNatClampNeg, .inr (.inr (.inr (.inr (fun i => if i < n.toNatClampNeg then some (H.size + 1 + i) else none))))))]) F.heap := hP0.app (fun k9 x hx => by
    have h0 : k9 < 1 := (List.getElem?_eq_some_iff.mp hx).1
    rw [show k9 = 0 by omega] at hx
    cases hx
    exact f2)
  have hP2 : va_P D cl (((X ++ va_pl L f) ++ [(H.size, .inl (cA, n.toNatClampNeg, .inr (.inr (.inr (.inr (fun i => if i < n.toNatClampNeg then some (H.size + 1 + i) else none))))))]) ++ ((List.range n.toNatClampNeg).map (fun i => H.size + 1 + i)).map (fun a => (a, .inl (cy, z)))) F.heap := hP1.app (fun k9 x hx => by
    obtain ⟨a, ha, rfl⟩ := List.mem_map.mp (List.mem_of_getElem? hx)
    obtain ⟨i, hi, rfl⟩ := List.mem_map.mp ha
    exact hrow i (List.mem_range.mp hi))
  have hD2 : va_D A (((X ++ va_pl L f) ++ [(H.size, .inl (cA, n.toNatClampNeg, .inr (.inr (.inr (.inr (fun i => if i < n.toNatClampNeg then some (H.size + 1 + i) else none))))))]) ++ ((List.range n.toNatClampNeg).map (fun i => H.size + 1 + i)).map (fun a => (a, .inl (cy, z)))) := by
    have hD1 := hD.push (e := .inl (cA, n.toNatClampNeg, .inr (.inr (.inr (.inr (fun i => if i < n.toNatClampNeg then some (H.size + 1 + i) else none)))))) hP rfl (hA _ hS.1)
    generalize hW1 : (X ++ va_pl L f) ++ [(H.size, .inl (cA, n.toNatClampNeg, .inr (.inr (.inr (.inr (fun i => if i < n.toNatClampNeg then some (H.size + 1 + i) else none))))))] = W1 at hD1 hP1 ⊢
    have hle : ∀ (k9 : Nat) (x : Nat × va_E), W1[k9]? = some x → x.1 ≤ H.size := fun k9 x hx => by
      rw [← hW1] at hx
      by_cases hl : k9 < (X ++ va_pl L f).length
      · rw [List.getElem?_append_left hl] at hx
        exact Nat.le_of_lt ((hP k9 x hx).lt)
      · rw [List.getElem?_append_right (by omega)] at hx
        have h0 : k9 - (X ++ va_pl L f).length < 1 := (List.getElem?_eq_some_iff.mp hx).1
        rw [show k9 - (X ++ va_pl L f).length = 0 by omega] at hx
        cases hx
        exact Nat.le_refl _
    have hr : ∀ (k9 : Nat) (x : Nat × va_E), (((List.range n.toNatClampNeg).map (fun i => H.size + 1 + i)).map (fun a => ((a, .inl (cy, z)) : Nat × va_E)))[k9]? = some x → x.1 = H.size + 1 + k9 := fun k9 x hx => by
      rw [List.getElem?_map, List.getElem?_map] at hx
      by_cases h9 : k9 < n.toNatClampNeg
      · rw [List.getElem?_range h9] at hx
        cases hx
        rfl
      · have hn0 : (List.range n.toNatClampNeg)[k9]? = none := List.getElem?_eq_none (by rw [List.length_range]; omega)
        rw [hn0] at hx
        cases hx
    refine ⟨fun i j x y hi hj hxy => ?_, fun k9 x hx => ?_⟩
    · by_cases h1 : i < W1.length <;> by_cases h2 : j < W1.length
      · rw [List.getElem?_append_left h1] at hi
        rw [List.getElem?_append_left h2] at hj
        exact hD1.1 i j x y hi hj hxy
      · rw [List.getElem?_append_left h1] at hi
        rw [List.getElem?_append_right (by omega)] at hj
        have := hle _ _ hi
        have := hr _ _ hj
        omega
      · rw [List.getElem?_append_right (by omega)] at hi
        rw [List.getElem?_append_left h2] at hj
        have := hle _ _ hj
        have := hr _ _ hi
        omega
      · rw [List.getElem?_append_right (by omega)] at hi hj
        have := hr _ _ hi
        have := hr _ _ hj
        omega
    · by_cases h1 : k9 < W1.length
      · rw [List.getElem?_append_left h1] at hx
        exact hD1.2 k9 x hx
      · rw [List.getElem?_append_right (by omega)] at hx
        have := hr _ _ hx
        exact hA _ (by have := hS.1; omega)
  have hAr : ArrOfT s cA (.array ty) := fun N9 z9 => by
    exact ⟨(fun q hq => by cases hq), kA, fk, cy, fkk⟩
  have hK2 : va_K D cl (tys ++ [(cA, .array ty)]) s := ⟨hK.1, fun k9 x hx => by
    by_cases hl : k9 < tys.length
    · rw [List.getElem?_append_left hl] at hx
      exact hK.2 k9 x hx
    · rw [List.getElem?_append_right (by omega)] at hx
      have h0 : k9 - tys.length < 1 := (List.getElem?_eq_some_iff.mp hx).1
      rw [show k9 - tys.length = 0 by omega] at hx
      cases hx
      exact ⟨hAr, fA⟩⟩
  obtain ⟨t, a1, b1⟩ := kk H.size (fun i => H.size + 1 + i) cA F.heap (fun i j _ _ h => by have h9 : H.size + 1 + i = H.size + 1 + j := h; omega) hnl hK2 (by rw [← vr_rows hnm]; exact vr_lay hP2) (by rw [← vr_rows hnm]; exact vr_layD hD2) ⟨by rw [f1]; have := hS.1; omega, fun x h1 h2 => (hold x (Nat.lt_of_lt_of_le h1 hS.1)).trans (hS.2.1 x h1 h2), hS.2.2⟩ F rfl X'
  refine ⟨t, step t ?_, b1⟩
  have e : T.heap.size = H.size := by rw [hT]
  rw [e]
  exact a1
end VGM
/-! ===== END ===== -/

/-! ===== BEGIN printed: names, fields, word lists, decode rows ===== -/
def RX0 : String := "TrackCrossings$Closing"
def TX0 : u_T := fun k => match k with
  | 0 => ("TrackCrossings$Closing", "offs", "[LTrackCrossings$Fraction;", true)
  | 1 => ("TrackCrossings$Closing", "differenceCount", "I", false)
  | 2 => ("TrackCrossings$Closing", "netCount", "I", false)
  | 3 => ("TrackCrossings$Closing", "aloneCount", "I", false)
  | 4 => ("TrackCrossings$Closing", "squares", "J", false)
  | 5 => ("TrackCrossings$Closing", "differences", "[[I", true)
  | 6 => ("TrackCrossings$Closing", "netOf", "[I", true)
  | 7 => ("TrackCrossings$Closing", "members", "[I", true)
  | 8 => ("TrackCrossings$Closing", "rows", "[[J", true)
  | 9 => ("TrackCrossings$Closing", "solution", "[J", true)
  | 10 => ("TrackCrossings$Closing", "closedAbove", "J", false)
  | _ => ("TrackCrossings$Closing", "closedBelow", "J", false)
def tyX0 : Nat → FieldType := fun k => match k with
  | 0 => .array (.object "TrackCrossings$Fraction")
  | 1 => .int
  | 2 => .int
  | 3 => .int
  | 4 => .long
  | 5 => .array (.array .int)
  | 6 => .array .int
  | 7 => .array .int
  | 8 => .array (.array .long)
  | 9 => .array .long
  | 10 => .long
  | _ => .long
abbrev wsX00 : List Cond := u_ws RX0 TX0 12
theorem nmX0 : ∀ a, a < 12 → ∀ b, b < 12 → a ≠ b → (TX0 a).2.1 ≠ (TX0 b).2.1 := by decide +kernel
theorem tyX0_ok : ∀ k, k < 12 → parseFieldDescriptor (TX0 k).2.2.1 = some (tyX0 k) := by decide +kernel
abbrev cX0_init : ByteArray := prog_2_method_1_code
def yX0_init : MethodName := ⟨RX0, "<init>", "()V"⟩
abbrev cX0_close : ByteArray := prog_2_method_2_code
def yX0_close : MethodName := ⟨RX0, "close", "([LTrackCrossings$Track;ILTrackCrossings$Crossing;)V"⟩
abbrev cX0_squaresLeft : ByteArray := prog_2_method_3_code
def yX0_squaresLeft : MethodName := ⟨RX0, "squaresLeft", "()J"⟩
abbrev cX0_startAnew : ByteArray := prog_2_method_4_code
def yX0_startAnew : MethodName := ⟨RX0, "startAnew", "()V"⟩
abbrev cX0_takeDifference : ByteArray := prog_2_method_5_code
def yX0_takeDifference : MethodName := ⟨RX0, "takeDifference", "(III)V"⟩
abbrev cX0_joinNets : ByteArray := prog_2_method_6_code
def yX0_joinNets : MethodName := ⟨RX0, "joinNets", "(II)V"⟩
abbrev cX0_gatherMembers : ByteArray := prog_2_method_7_code
def yX0_gatherMembers : MethodName := ⟨RX0, "gatherMembers", "(II)I"⟩
abbrev cX0_settleNet : ByteArray := prog_2_method_8_code
def yX0_settleNet : MethodName := ⟨RX0, "settleNet", "(I)V"⟩
abbrev cX0_fillRows : ByteArray := prog_2_method_9_code
def yX0_fillRows : MethodName := ⟨RX0, "fillRows", "(I)V"⟩
abbrev cX0_addToRows : ByteArray := prog_2_method_10_code
def yX0_addToRows : MethodName := ⟨RX0, "addToRows", "(IIII)V"⟩
abbrev cX0_solveRows : ByteArray := prog_2_method_11_code
def yX0_solveRows : MethodName := ⟨RX0, "solveRows", "(I)J"⟩
abbrev cX0_clearRow : ByteArray := prog_2_method_12_code
def yX0_clearRow : MethodName := ⟨RX0, "clearRow", "(IIIJ)V"⟩
abbrev cX0_tellOffs : ByteArray := prog_2_method_13_code
def yX0_tellOffs : MethodName := ⟨RX0, "tellOffs", "(IJ)V"⟩
abbrev cX0_addClosed : ByteArray := prog_2_method_14_code
def yX0_addClosed : MethodName := ⟨RX0, "addClosed", "(IJ)V"⟩
def RX1 : String := "TrackCrossings$Crossing"
def TX1 : u_T := fun k => match k with
  | 0 => ("TrackCrossings$Crossing", "isThere", "Z", false)
  | 1 => ("TrackCrossings$Crossing", "below", "J", false)
  | 2 => ("TrackCrossings$Crossing", "shareA", "J", false)
  | _ => ("TrackCrossings$Crossing", "shareB", "J", false)
def tyX1 : Nat → FieldType := fun k => match k with
  | 0 => .boolean
  | 1 => .long
  | 2 => .long
  | _ => .long
abbrev wsX10 : List Cond := u_ws RX1 TX1 4
theorem nmX1 : ∀ a, a < 4 → ∀ b, b < 4 → a ≠ b → (TX1 a).2.1 ≠ (TX1 b).2.1 := by decide +kernel
theorem tyX1_ok : ∀ k, k < 4 → parseFieldDescriptor (TX1 k).2.2.1 = some (tyX1 k) := by decide +kernel
abbrev cX1_init : ByteArray := prog_3_method_1_code
def yX1_init : MethodName := ⟨RX1, "<init>", "()V"⟩
abbrev cX1_find : ByteArray := prog_3_method_2_code
def yX1_find : MethodName := ⟨RX1, "find", "(LTrackCrossings$Track;LTrackCrossings$Track;)V"⟩
abbrev cX1_aboveOf : ByteArray := prog_3_method_3_code
def yX1_aboveOf : MethodName := ⟨RX1, "aboveOf", "(ILTrackCrossings$Track;LTrackCrossings$Track;)J"⟩
abbrev cX1_differenceOf : ByteArray := prog_3_method_4_code
def yX1_differenceOf : MethodName := ⟨RX1, "differenceOf", "(LTrackCrossings$Track;LTrackCrossings$Track;)I"⟩
def RX2 : String := "TrackCrossings$Fraction"
def TX2 : u_T := fun k => match k with
  | 0 => ("TrackCrossings$Fraction", "above", "J", false)
  | _ => ("TrackCrossings$Fraction", "below", "J", false)
def tyX2 : Nat → FieldType := fun k => match k with
  | 0 => .long
  | _ => .long
abbrev wsX20 : List Cond := u_ws RX2 TX2 2
theorem nmX2 : ∀ a, a < 2 → ∀ b, b < 2 → a ≠ b → (TX2 a).2.1 ≠ (TX2 b).2.1 := by decide +kernel
theorem tyX2_ok : ∀ k, k < 2 → parseFieldDescriptor (TX2 k).2.2.1 = some (tyX2 k) := by decide +kernel
abbrev cX2_init : ByteArray := prog_4_method_1_code
def yX2_init : MethodName := ⟨RX2, "<init>", "()V"⟩
abbrev cX2_become : ByteArray := prog_4_method_2_code
def yX2_become : MethodName := ⟨RX2, "become", "(JJ)V"⟩
abbrev cX2_partOf : ByteArray := prog_4_method_3_code
def yX2_partOf : MethodName := ⟨RX2, "partOf", "(I)J"⟩
abbrev cX2_roundedDown : ByteArray := prog_4_method_4_code
def yX2_roundedDown : MethodName := ⟨RX2, "roundedDown", "()J"⟩
abbrev cX2_greatestShared : ByteArray := prog_4_method_5_code
def yX2_greatestShared : MethodName := ⟨RX2, "greatestShared", "(JJ)J"⟩
def RX3 : String := "TrackCrossings$Tones"
def TX3 : u_T := fun k => match k with
  | 0 => ("TrackCrossings$Tones", "periods", "[I", true)
  | _ => ("TrackCrossings$Tones", "count", "I", false)
def tyX3 : Nat → FieldType := fun k => match k with
  | 0 => .array .int
  | _ => .int
abbrev wsX30 : List Cond := u_ws RX3 TX3 2
theorem nmX3 : ∀ a, a < 2 → ∀ b, b < 2 → a ≠ b → (TX3 a).2.1 ≠ (TX3 b).2.1 := by decide +kernel
theorem tyX3_ok : ∀ k, k < 2 → parseFieldDescriptor (TX3 k).2.2.1 = some (tyX3 k) := by decide +kernel
abbrev cX3_init : ByteArray := prog_5_method_1_code
def yX3_init : MethodName := ⟨RX3, "<init>", "()V"⟩
abbrev cX3_has : ByteArray := prog_5_method_2_code
def yX3_has : MethodName := ⟨RX3, "has", "(I)Z"⟩
abbrev cX3_distance : ByteArray := prog_5_method_3_code
def yX3_distance : MethodName := ⟨RX3, "distance", "(II)J"⟩
abbrev cX3_areToldApart : ByteArray := prog_5_method_4_code
def yX3_areToldApart : MethodName := ⟨RX3, "areToldApart", "(IIII)Z"⟩
def RX4 : String := "TrackCrossings$Track"
def TX4 : u_T := fun k => match k with
  | 0 => ("TrackCrossings$Track", "startX", "I", false)
  | 1 => ("TrackCrossings$Track", "startY", "I", false)
  | 2 => ("TrackCrossings$Track", "startTime", "I", false)
  | 3 => ("TrackCrossings$Track", "stepX", "I", false)
  | 4 => ("TrackCrossings$Track", "stepY", "I", false)
  | 5 => ("TrackCrossings$Track", "stepTime", "I", false)
  | 6 => ("TrackCrossings$Track", "heldOut", "Z", false)
  | _ => ("TrackCrossings$Track", "heights", "[I", true)
def tyX4 : Nat → FieldType := fun k => match k with
  | 0 => .int
  | 1 => .int
  | 2 => .int
  | 3 => .int
  | 4 => .int
  | 5 => .int
  | 6 => .boolean
  | _ => .array .int
abbrev wsX40 : List Cond := u_ws RX4 TX4 8
theorem nmX4 : ∀ a, a < 8 → ∀ b, b < 8 → a ≠ b → (TX4 a).2.1 ≠ (TX4 b).2.1 := by decide +kernel
theorem tyX4_ok : ∀ k, k < 8 → parseFieldDescriptor (TX4 k).2.2.1 = some (tyX4 k) := by decide +kernel
abbrev cX4_init : ByteArray := prog_6_method_1_code
def yX4_init : MethodName := ⟨RX4, "<init>", "()V"⟩
abbrev cX4_runFrom : ByteArray := prog_6_method_2_code
def yX4_runFrom : MethodName := ⟨RX4, "runFrom", "(III)V"⟩
abbrev cX4_runTo : ByteArray := prog_6_method_3_code
def yX4_runTo : MethodName := ⟨RX4, "runTo", "(III)V"⟩
abbrev cX4_heightTimesBelow : ByteArray := prog_6_method_4_code
def yX4_heightTimesBelow : MethodName := ⟨RX4, "heightTimesBelow", "(JJ)J"⟩
abbrev cX4_readingsIn : ByteArray := prog_6_method_5_code
def yX4_readingsIn : MethodName := ⟨RX4, "readingsIn", "(III)I"⟩
abbrev cX4_heightsIn : ByteArray := prog_6_method_6_code
def yX4_heightsIn : MethodName := ⟨RX4, "heightsIn", "(III)J"⟩
abbrev cX4_isIn : ByteArray := prog_6_method_7_code
def yX4_isIn : MethodName := ⟨RX4, "isIn", "(IIII)Z"⟩
def RX5 : String := "TrackCrossings"
def TX5 : u_T := fun k => match k with
  | 0 => ("TrackCrossings", "tracks", "[LTrackCrossings$Track;", true)
  | 1 => ("TrackCrossings", "crossing", "LTrackCrossings$Crossing;", true)
  | 2 => ("TrackCrossings", "closing", "LTrackCrossings$Closing;", true)
  | 3 => ("TrackCrossings", "tones", "LTrackCrossings$Tones;", true)
  | 4 => ("TrackCrossings", "fraction", "LTrackCrossings$Fraction;", true)
  | 5 => ("TrackCrossings", "trackCount", "I", false)
  | _ => ("TrackCrossings", "closingIsOld", "Z", false)
def tyX5 : Nat → FieldType := fun k => match k with
  | 0 => .array (.object "TrackCrossings$Track")
  | 1 => .object "TrackCrossings$Crossing"
  | 2 => .object "TrackCrossings$Closing"
  | 3 => .object "TrackCrossings$Tones"
  | 4 => .object "TrackCrossings$Fraction"
  | 5 => .int
  | _ => .boolean
abbrev wsX50 : List Cond := u_ws RX5 TX5 7
theorem nmX5 : ∀ a, a < 7 → ∀ b, b < 7 → a ≠ b → (TX5 a).2.1 ≠ (TX5 b).2.1 := by decide +kernel
theorem tyX5_ok : ∀ k, k < 7 → parseFieldDescriptor (TX5 k).2.2.1 = some (tyX5 k) := by decide +kernel
abbrev cX5_init : ByteArray := prog_1_method_1_code
def yX5_init : MethodName := ⟨RX5, "<init>", "()V"⟩
abbrev cX5_track : ByteArray := prog_1_method_2_code
def yX5_track : MethodName := ⟨RX5, "track", "(IIIIII)I"⟩
abbrev cX5_read : ByteArray := prog_1_method_3_code
def yX5_read : MethodName := ⟨RX5, "read", "(III)I"⟩
abbrev cX5_hold : ByteArray := prog_1_method_4_code
def yX5_hold : MethodName := ⟨RX5, "hold", "(IZ)I"⟩
abbrev cX5_cross : ByteArray := prog_1_method_5_code
def yX5_cross : MethodName := ⟨RX5, "cross", "(IIII)J"⟩
abbrev cX5_crosses : ByteArray := prog_1_method_6_code
def yX5_crosses : MethodName := ⟨RX5, "crosses", "(II)I"⟩
abbrev cX5_difference : ByteArray := prog_1_method_7_code
def yX5_difference : MethodName := ⟨RX5, "difference", "(II)I"⟩
abbrev cX5_net : ByteArray := prog_1_method_8_code
def yX5_net : MethodName := ⟨RX5, "net", "(I)I"⟩
abbrev cX5_off : ByteArray := prog_1_method_9_code
def yX5_off : MethodName := ⟨RX5, "off", "(II)J"⟩
abbrev cX5_before : ByteArray := prog_1_method_10_code
def yX5_before : MethodName := ⟨RX5, "before", "()J"⟩
abbrev cX5_behind : ByteArray := prog_1_method_11_code
def yX5_behind : MethodName := ⟨RX5, "behind", "()J"⟩
abbrev cX5_loop : ByteArray := prog_1_method_12_code
def yX5_loop : MethodName := ⟨RX5, "loop", "(III)I"⟩
abbrev cX5_tone : ByteArray := prog_1_method_13_code
def yX5_tone : MethodName := ⟨RX5, "tone", "(I)I"⟩
abbrev cX5_seen : ByteArray := prog_1_method_14_code
def yX5_seen : MethodName := ⟨RX5, "seen", "(III)J"⟩
abbrev cX5_apart : ByteArray := prog_1_method_15_code
def yX5_apart : MethodName := ⟨RX5, "apart", "(IIII)I"⟩
abbrev cX5_box : ByteArray := prog_1_method_16_code
def yX5_box : MethodName := ⟨RX5, "box", "(IIII)J"⟩
abbrev cX5_count : ByteArray := prog_1_method_17_code
def yX5_count : MethodName := ⟨RX5, "count", "(I)I"⟩
abbrev cX5_countReadings : ByteArray := prog_1_method_18_code
def yX5_countReadings : MethodName := ⟨RX5, "countReadings", "()I"⟩
abbrev cX5_countHeldOut : ByteArray := prog_1_method_19_code
def yX5_countHeldOut : MethodName := ⟨RX5, "countHeldOut", "()I"⟩
abbrev cX5_bringClosingUpToDate : ByteArray := prog_1_method_20_code
def yX5_bringClosingUpToDate : MethodName := ⟨RX5, "bringClosingUpToDate", "()V"⟩
abbrev cX5_isTrack : ByteArray := prog_1_method_21_code
def yX5_isTrack : MethodName := ⟨RX5, "isTrack", "(I)Z"⟩
abbrev cX5_areTwoTracks : ByteArray := prog_1_method_22_code
def yX5_areTwoTracks : MethodName := ⟨RX5, "areTwoTracks", "(II)Z"⟩
abbrev cX5_isPart : ByteArray := prog_1_method_23_code
def yX5_isPart : MethodName := ⟨RX5, "isPart", "(I)Z"⟩
abbrev cX5_isOnMap : ByteArray := prog_1_method_24_code
def yX5_isOnMap : MethodName := ⟨RX5, "isOnMap", "(I)Z"⟩
abbrev cX5_isWithin : ByteArray := prog_1_method_25_code
def yX5_isWithin : MethodName := ⟨RX5, "isWithin", "(III)Z"⟩
def RX6 : String := "TrackCrossingsModel"
def TX6 : u_T := fun k => match k with
  | 0 => ("TrackCrossingsModel", "tracks", "I", false)
  | 1 => ("TrackCrossingsModel", "ends", "[I", true)
  | 2 => ("TrackCrossingsModel", "heights", "[I", true)
  | 3 => ("TrackCrossingsModel", "isOut", "[Z", true)
  | 4 => ("TrackCrossingsModel", "tones", "I", false)
  | 5 => ("TrackCrossingsModel", "periods", "[I", true)
  | 6 => ("TrackCrossingsModel", "below", "J", false)
  | 7 => ("TrackCrossingsModel", "shareA", "J", false)
  | 8 => ("TrackCrossingsModel", "shareB", "J", false)
  | 9 => ("TrackCrossingsModel", "height", "J", false)
  | 10 => ("TrackCrossingsModel", "difference", "J", false)
  | 11 => ("TrackCrossingsModel", "net", "[I", true)
  | 12 => ("TrackCrossingsModel", "member", "[I", true)
  | 13 => ("TrackCrossingsModel", "rows", "[J", true)
  | 14 => ("TrackCrossingsModel", "above", "[J", true)
  | 15 => ("TrackCrossingsModel", "under", "[J", true)
  | 16 => ("TrackCrossingsModel", "offAbove", "J", false)
  | _ => ("TrackCrossingsModel", "offBelow", "J", false)
def tyX6 : Nat → FieldType := fun k => match k with
  | 0 => .int
  | 1 => .array .int
  | 2 => .array .int
  | 3 => .array .boolean
  | 4 => .int
  | 5 => .array .int
  | 6 => .long
  | 7 => .long
  | 8 => .long
  | 9 => .long
  | 10 => .long
  | 11 => .array .int
  | 12 => .array .int
  | 13 => .array .long
  | 14 => .array .long
  | 15 => .array .long
  | 16 => .long
  | _ => .long
abbrev wsX60 : List Cond := u_ws RX6 TX6 18
theorem nmX6 : ∀ a, a < 18 → ∀ b, b < 18 → a ≠ b → (TX6 a).2.1 ≠ (TX6 b).2.1 := by decide +kernel
theorem tyX6_ok : ∀ k, k < 18 → parseFieldDescriptor (TX6 k).2.2.1 = some (tyX6 k) := by decide +kernel
abbrev cX6_init : ByteArray := prog_8_method_1_code
def yX6_init : MethodName := ⟨RX6, "<init>", "()V"⟩
abbrev cX6_in : ByteArray := prog_8_method_2_code
def yX6_in : MethodName := ⟨RX6, "in", "(JJJ)Z"⟩
abbrev cX6_isTrack : ByteArray := prog_8_method_3_code
def yX6_isTrack : MethodName := ⟨RX6, "isTrack", "(I)Z"⟩
abbrev cX6_isSpot : ByteArray := prog_8_method_4_code
def yX6_isSpot : MethodName := ⟨RX6, "isSpot", "(II)Z"⟩
abbrev cX6_track : ByteArray := prog_8_method_5_code
def yX6_track : MethodName := ⟨RX6, "track", "(IIIIII)I"⟩
abbrev cX6_read : ByteArray := prog_8_method_6_code
def yX6_read : MethodName := ⟨RX6, "read", "(III)I"⟩
abbrev cX6_hold : ByteArray := prog_8_method_7_code
def yX6_hold : MethodName := ⟨RX6, "hold", "(IZ)I"⟩
abbrev cX6_meet : ByteArray := prog_8_method_8_code
def yX6_meet : MethodName := ⟨RX6, "meet", "(II)Z"⟩
abbrev cX6_between : ByteArray := prog_8_method_9_code
def yX6_between : MethodName := ⟨RX6, "between", "(JJJ)J"⟩
abbrev cX6_hasHeight : ByteArray := prog_8_method_10_code
def yX6_hasHeight : MethodName := ⟨RX6, "hasHeight", "(IJ)Z"⟩
abbrev cX6_common : ByteArray := prog_8_method_11_code
def yX6_common : MethodName := ⟨RX6, "common", "(JJ)J"⟩
abbrev cX6_part : ByteArray := prog_8_method_12_code
def yX6_part : MethodName := ⟨RX6, "part", "(JJI)J"⟩
abbrev cX6_cross : ByteArray := prog_8_method_13_code
def yX6_cross : MethodName := ⟨RX6, "cross", "(IIII)J"⟩
abbrev cX6_crosses : ByteArray := prog_8_method_14_code
def yX6_crosses : MethodName := ⟨RX6, "crosses", "(II)I"⟩
abbrev cX6_down : ByteArray := prog_8_method_15_code
def yX6_down : MethodName := ⟨RX6, "down", "(JJ)J"⟩
abbrev cX6_differ : ByteArray := prog_8_method_16_code
def yX6_differ : MethodName := ⟨RX6, "differ", "(II)Z"⟩
abbrev cX6_difference : ByteArray := prog_8_method_17_code
def yX6_difference : MethodName := ⟨RX6, "difference", "(II)I"⟩
abbrev cX6_nets : ByteArray := prog_8_method_18_code
def yX6_nets : MethodName := ⟨RX6, "nets", "()V"⟩
abbrev cX6_members : ByteArray := prog_8_method_19_code
def yX6_members : MethodName := ⟨RX6, "members", "(I)I"⟩
abbrev cX6_net : ByteArray := prog_8_method_20_code
def yX6_net : MethodName := ⟨RX6, "net", "(I)I"⟩
abbrev cX6_solves : ByteArray := prog_8_method_21_code
def yX6_solves : MethodName := ⟨RX6, "solves", "(I)V"⟩
abbrev cX6_clears : ByteArray := prog_8_method_22_code
def yX6_clears : MethodName := ⟨RX6, "clears", "(IIJ)V"⟩
abbrev cX6_backs : ByteArray := prog_8_method_23_code
def yX6_backs : MethodName := ⟨RX6, "backs", "(IJ)V"⟩
abbrev cX6_offs : ByteArray := prog_8_method_24_code
def yX6_offs : MethodName := ⟨RX6, "offs", "()V"⟩
abbrev cX6_offOf : ByteArray := prog_8_method_25_code
def yX6_offOf : MethodName := ⟨RX6, "offOf", "(I)V"⟩
abbrev cX6_off : ByteArray := prog_8_method_26_code
def yX6_off : MethodName := ⟨RX6, "off", "(II)J"⟩
abbrev cX6_before : ByteArray := prog_8_method_27_code
def yX6_before : MethodName := ⟨RX6, "before", "()J"⟩
abbrev cX6_behind : ByteArray := prog_8_method_28_code
def yX6_behind : MethodName := ⟨RX6, "behind", "()J"⟩
abbrev cX6_loop : ByteArray := prog_8_method_29_code
def yX6_loop : MethodName := ⟨RX6, "loop", "(III)I"⟩
abbrev cX6_tone : ByteArray := prog_8_method_30_code
def yX6_tone : MethodName := ⟨RX6, "tone", "(I)I"⟩
abbrev cX6_isTone : ByteArray := prog_8_method_31_code
def yX6_isTone : MethodName := ⟨RX6, "isTone", "(I)Z"⟩
abbrev cX6_least : ByteArray := prog_8_method_32_code
def yX6_least : MethodName := ⟨RX6, "least", "(JJ)J"⟩
abbrev cX6_seen : ByteArray := prog_8_method_33_code
def yX6_seen : MethodName := ⟨RX6, "seen", "(III)J"⟩
abbrev cX6_apart : ByteArray := prog_8_method_34_code
def yX6_apart : MethodName := ⟨RX6, "apart", "(IIII)I"⟩
abbrev cX6_box : ByteArray := prog_8_method_35_code
def yX6_box : MethodName := ⟨RX6, "box", "(IIII)J"⟩
abbrev cX6_count : ByteArray := prog_8_method_36_code
def yX6_count : MethodName := ⟨RX6, "count", "(I)I"⟩
def RJ9 : String := "java/lang/Math"
def TJ9 : u_T := fun k => match k with
  | _ => ("", "", "", false)
def tyJ9 : Nat → FieldType := fun k => match k with
  | _ => .int
abbrev wsJ90 : List Cond := u_ws RJ9 TJ9 0
theorem nmJ9 : ∀ a, a < 0 → ∀ b, b < 0 → a ≠ b → (TJ9 a).2.1 ≠ (TJ9 b).2.1 := by decide +kernel
theorem tyJ9_ok : ∀ k, k < 0 → parseFieldDescriptor (TJ9 k).2.2.1 = some (tyJ9 k) := by decide +kernel
abbrev cJ9_floorDiv_7cf53 : ByteArray := prog_9_method_47_code
def yJ9_floorDiv_7cf53 : MethodName := ⟨RJ9, "floorDiv", "(II)I"⟩
abbrev cJ9_floorDiv_f86c9 : ByteArray := prog_9_method_49_code
def yJ9_floorDiv_f86c9 : MethodName := ⟨RJ9, "floorDiv", "(JJ)J"⟩
abbrev cJ9_abs_067f4 : ByteArray := prog_9_method_61_code
def yJ9_abs_067f4 : MethodName := ⟨RJ9, "abs", "(J)J"⟩
abbrev cJ9_max_7cf53 : ByteArray := prog_9_method_65_code
def yJ9_max_7cf53 : MethodName := ⟨RJ9, "max", "(II)I"⟩
abbrev cJ9_min_7cf53 : ByteArray := prog_9_method_69_code
def yJ9_min_7cf53 : MethodName := ⟨RJ9, "min", "(II)I"⟩
def RL : String := "TrackCrossingsLaw"
abbrev cL_law : ByteArray := code
def yL_law : MethodName := ⟨RL, "law", "([I)Z"⟩
