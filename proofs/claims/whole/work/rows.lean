section
-- ===== PART A: goes FIRST, ahead of the names: the tables' words, and 'selects' of the private methods out of them =====
/-- a private method of a class that the tables say can be made, by its rows of tables_1 -/
def lw_okq (q : MethodName × Nat) : Prop := (q.1.cls ≠ "java/lang/invoke/MethodHandle" ∧ q.1.cls ≠ "java/lang/invoke/VarHandle") ∧ Cond.instantiable q.1.cls q.2 ∈ tables_1 ∧ Cond.privateMethod q.1 ∈ tables_1 ∧ Cond.instanceMethod q.1 ∈ tables_1
theorem lw_p0 : lw_okq (⟨"TrackCrossings", "isTrack", "(I)Z"⟩, 7) := ⟨⟨by decide +kernel, by decide +kernel⟩, List.mem_of_getElem? (i := 10) (by decide +kernel), List.mem_of_getElem? (i := 211) (by decide +kernel), List.mem_of_getElem? (i := 212) (by decide +kernel)⟩
theorem lw_p1 : lw_okq (⟨"TrackCrossings", "areTwoTracks", "(II)Z"⟩, 7) := ⟨⟨by decide +kernel, by decide +kernel⟩, List.mem_of_getElem? (i := 10) (by decide +kernel), List.mem_of_getElem? (i := 224) (by decide +kernel), List.mem_of_getElem? (i := 225) (by decide +kernel)⟩
theorem lw_p2 : lw_okq (⟨"TrackCrossings", "bringClosingUpToDate", "()V"⟩, 7) := ⟨⟨by decide +kernel, by decide +kernel⟩, List.mem_of_getElem? (i := 10) (by decide +kernel), List.mem_of_getElem? (i := 284) (by decide +kernel), List.mem_of_getElem? (i := 285) (by decide +kernel)⟩
theorem lw_p3 : lw_okq (⟨"TrackCrossings$Closing", "startAnew", "()V"⟩, 12) := ⟨⟨by decide +kernel, by decide +kernel⟩, List.mem_of_getElem? (i := 81) (by decide +kernel), List.mem_of_getElem? (i := 292) (by decide +kernel), List.mem_of_getElem? (i := 293) (by decide +kernel)⟩
theorem lw_p4 : lw_okq (⟨"TrackCrossings$Closing", "takeDifference", "(III)V"⟩, 12) := ⟨⟨by decide +kernel, by decide +kernel⟩, List.mem_of_getElem? (i := 81) (by decide +kernel), List.mem_of_getElem? (i := 298) (by decide +kernel), List.mem_of_getElem? (i := 299) (by decide +kernel)⟩
theorem lw_p5 : lw_okq (⟨"TrackCrossings$Closing", "joinNets", "(II)V"⟩, 12) := ⟨⟨by decide +kernel, by decide +kernel⟩, List.mem_of_getElem? (i := 81) (by decide +kernel), List.mem_of_getElem? (i := 303) (by decide +kernel), List.mem_of_getElem? (i := 304) (by decide +kernel)⟩
theorem lw_p6 : lw_okq (⟨"TrackCrossings$Closing", "gatherMembers", "(II)I"⟩, 12) := ⟨⟨by decide +kernel, by decide +kernel⟩, List.mem_of_getElem? (i := 81) (by decide +kernel), List.mem_of_getElem? (i := 313) (by decide +kernel), List.mem_of_getElem? (i := 314) (by decide +kernel)⟩
theorem lw_p7 : lw_okq (⟨"TrackCrossings$Closing", "settleNet", "(I)V"⟩, 12) := ⟨⟨by decide +kernel, by decide +kernel⟩, List.mem_of_getElem? (i := 81) (by decide +kernel), List.mem_of_getElem? (i := 317) (by decide +kernel), List.mem_of_getElem? (i := 318) (by decide +kernel)⟩
theorem lw_p8 : lw_okq (⟨"TrackCrossings$Closing", "fillRows", "(I)V"⟩, 12) := ⟨⟨by decide +kernel, by decide +kernel⟩, List.mem_of_getElem? (i := 81) (by decide +kernel), List.mem_of_getElem? (i := 321) (by decide +kernel), List.mem_of_getElem? (i := 322) (by decide +kernel)⟩
theorem lw_p9 : lw_okq (⟨"TrackCrossings$Closing", "addToRows", "(IIII)V"⟩, 12) := ⟨⟨by decide +kernel, by decide +kernel⟩, List.mem_of_getElem? (i := 81) (by decide +kernel), List.mem_of_getElem? (i := 325) (by decide +kernel), List.mem_of_getElem? (i := 326) (by decide +kernel)⟩
theorem lw_p10 : lw_okq (⟨"TrackCrossings$Closing", "solveRows", "(I)J"⟩, 12) := ⟨⟨by decide +kernel, by decide +kernel⟩, List.mem_of_getElem? (i := 81) (by decide +kernel), List.mem_of_getElem? (i := 329) (by decide +kernel), List.mem_of_getElem? (i := 330) (by decide +kernel)⟩
theorem lw_p11 : lw_okq (⟨"TrackCrossings$Closing", "clearRow", "(IIIJ)V"⟩, 12) := ⟨⟨by decide +kernel, by decide +kernel⟩, List.mem_of_getElem? (i := 81) (by decide +kernel), List.mem_of_getElem? (i := 333) (by decide +kernel), List.mem_of_getElem? (i := 334) (by decide +kernel)⟩
theorem lw_p12 : lw_okq (⟨"TrackCrossings$Closing", "tellOffs", "(IJ)V"⟩, 12) := ⟨⟨by decide +kernel, by decide +kernel⟩, List.mem_of_getElem? (i := 81) (by decide +kernel), List.mem_of_getElem? (i := 337) (by decide +kernel), List.mem_of_getElem? (i := 338) (by decide +kernel)⟩
theorem lw_p13 : lw_okq (⟨"TrackCrossings$Closing", "addClosed", "(IJ)V"⟩, 12) := ⟨⟨by decide +kernel, by decide +kernel⟩, List.mem_of_getElem? (i := 81) (by decide +kernel), List.mem_of_getElem? (i := 341) (by decide +kernel), List.mem_of_getElem? (i := 342) (by decide +kernel)⟩
theorem lw_p14 : lw_okq (⟨"TrackCrossings$Track", "isIn", "(IIII)Z"⟩, 8) := ⟨⟨by decide +kernel, by decide +kernel⟩, List.mem_of_getElem? (i := 19) (by decide +kernel), List.mem_of_getElem? (i := 410) (by decide +kernel), List.mem_of_getElem? (i := 411) (by decide +kernel)⟩
theorem lw_p15 : lw_okq (⟨"TrackCrossings", "countReadings", "()I"⟩, 7) := ⟨⟨by decide +kernel, by decide +kernel⟩, List.mem_of_getElem? (i := 10) (by decide +kernel), List.mem_of_getElem? (i := 431) (by decide +kernel), List.mem_of_getElem? (i := 432) (by decide +kernel)⟩
def lw_privs_1 : List (MethodName × Nat) := [(⟨"TrackCrossings", "isTrack", "(I)Z"⟩, 7), (⟨"TrackCrossings", "areTwoTracks", "(II)Z"⟩, 7), (⟨"TrackCrossings", "bringClosingUpToDate", "()V"⟩, 7), (⟨"TrackCrossings$Closing", "startAnew", "()V"⟩, 12), (⟨"TrackCrossings$Closing", "takeDifference", "(III)V"⟩, 12), (⟨"TrackCrossings$Closing", "joinNets", "(II)V"⟩, 12), (⟨"TrackCrossings$Closing", "gatherMembers", "(II)I"⟩, 12), (⟨"TrackCrossings$Closing", "settleNet", "(I)V"⟩, 12), (⟨"TrackCrossings$Closing", "fillRows", "(I)V"⟩, 12), (⟨"TrackCrossings$Closing", "addToRows", "(IIII)V"⟩, 12), (⟨"TrackCrossings$Closing", "solveRows", "(I)J"⟩, 12), (⟨"TrackCrossings$Closing", "clearRow", "(IIIJ)V"⟩, 12), (⟨"TrackCrossings$Closing", "tellOffs", "(IJ)V"⟩, 12), (⟨"TrackCrossings$Closing", "addClosed", "(IJ)V"⟩, 12), (⟨"TrackCrossings$Track", "isIn", "(IIII)Z"⟩, 8), (⟨"TrackCrossings", "countReadings", "()I"⟩, 7)]
theorem lw_r1 : ∀ q ∈ lw_privs_1, lw_okq q := List.forall_mem_cons.mpr ⟨lw_p0, List.forall_mem_cons.mpr ⟨lw_p1, List.forall_mem_cons.mpr ⟨lw_p2, List.forall_mem_cons.mpr ⟨lw_p3, List.forall_mem_cons.mpr ⟨lw_p4, List.forall_mem_cons.mpr ⟨lw_p5, List.forall_mem_cons.mpr ⟨lw_p6, List.forall_mem_cons.mpr ⟨lw_p7, List.forall_mem_cons.mpr ⟨lw_p8, List.forall_mem_cons.mpr ⟨lw_p9, List.forall_mem_cons.mpr ⟨lw_p10, List.forall_mem_cons.mpr ⟨lw_p11, List.forall_mem_cons.mpr ⟨lw_p12, List.forall_mem_cons.mpr ⟨lw_p13, List.forall_mem_cons.mpr ⟨lw_p14, List.forall_mem_cons.mpr ⟨lw_p15, fun _ h => absurd h List.not_mem_nil⟩⟩⟩⟩⟩⟩⟩⟩⟩⟩⟩⟩⟩⟩⟩⟩
theorem lw_p16 : lw_okq (⟨"TrackCrossings", "countHeldOut", "()I"⟩, 7) := ⟨⟨by decide +kernel, by decide +kernel⟩, List.mem_of_getElem? (i := 10) (by decide +kernel), List.mem_of_getElem? (i := 435) (by decide +kernel), List.mem_of_getElem? (i := 436) (by decide +kernel)⟩
theorem lw_p17 : lw_okq (⟨"TrackCrossingsModel", "isTrack", "(I)Z"⟩, 18) := ⟨⟨by decide +kernel, by decide +kernel⟩, List.mem_of_getElem? (i := 439) (by decide +kernel), List.mem_of_getElem? (i := 519) (by decide +kernel), List.mem_of_getElem? (i := 520) (by decide +kernel)⟩
theorem lw_p18 : lw_okq (⟨"TrackCrossingsModel", "meet", "(II)Z"⟩, 18) := ⟨⟨by decide +kernel, by decide +kernel⟩, List.mem_of_getElem? (i := 439) (by decide +kernel), List.mem_of_getElem? (i := 537) (by decide +kernel), List.mem_of_getElem? (i := 538) (by decide +kernel)⟩
theorem lw_p19 : lw_okq (⟨"TrackCrossingsModel", "between", "(JJJ)J"⟩, 18) := ⟨⟨by decide +kernel, by decide +kernel⟩, List.mem_of_getElem? (i := 439) (by decide +kernel), List.mem_of_getElem? (i := 542) (by decide +kernel), List.mem_of_getElem? (i := 543) (by decide +kernel)⟩
theorem lw_p20 : lw_okq (⟨"TrackCrossingsModel", "hasHeight", "(IJ)Z"⟩, 18) := ⟨⟨by decide +kernel, by decide +kernel⟩, List.mem_of_getElem? (i := 439) (by decide +kernel), List.mem_of_getElem? (i := 552) (by decide +kernel), List.mem_of_getElem? (i := 553) (by decide +kernel)⟩
theorem lw_p21 : lw_okq (⟨"TrackCrossingsModel", "differ", "(II)Z"⟩, 18) := ⟨⟨by decide +kernel, by decide +kernel⟩, List.mem_of_getElem? (i := 439) (by decide +kernel), List.mem_of_getElem? (i := 566) (by decide +kernel), List.mem_of_getElem? (i := 567) (by decide +kernel)⟩
theorem lw_p22 : lw_okq (⟨"TrackCrossingsModel", "nets", "()V"⟩, 18) := ⟨⟨by decide +kernel, by decide +kernel⟩, List.mem_of_getElem? (i := 439) (by decide +kernel), List.mem_of_getElem? (i := 579) (by decide +kernel), List.mem_of_getElem? (i := 580) (by decide +kernel)⟩
theorem lw_p23 : lw_okq (⟨"TrackCrossingsModel", "members", "(I)I"⟩, 18) := ⟨⟨by decide +kernel, by decide +kernel⟩, List.mem_of_getElem? (i := 439) (by decide +kernel), List.mem_of_getElem? (i := 583) (by decide +kernel), List.mem_of_getElem? (i := 584) (by decide +kernel)⟩
theorem lw_p24 : lw_okq (⟨"TrackCrossingsModel", "offs", "()V"⟩, 18) := ⟨⟨by decide +kernel, by decide +kernel⟩, List.mem_of_getElem? (i := 439) (by decide +kernel), List.mem_of_getElem? (i := 592) (by decide +kernel), List.mem_of_getElem? (i := 593) (by decide +kernel)⟩
theorem lw_p25 : lw_okq (⟨"TrackCrossingsModel", "solves", "(I)V"⟩, 18) := ⟨⟨by decide +kernel, by decide +kernel⟩, List.mem_of_getElem? (i := 439) (by decide +kernel), List.mem_of_getElem? (i := 596) (by decide +kernel), List.mem_of_getElem? (i := 597) (by decide +kernel)⟩
theorem lw_p26 : lw_okq (⟨"TrackCrossingsModel", "clears", "(IIJ)V"⟩, 18) := ⟨⟨by decide +kernel, by decide +kernel⟩, List.mem_of_getElem? (i := 439) (by decide +kernel), List.mem_of_getElem? (i := 600) (by decide +kernel), List.mem_of_getElem? (i := 601) (by decide +kernel)⟩
theorem lw_p27 : lw_okq (⟨"TrackCrossingsModel", "backs", "(IJ)V"⟩, 18) := ⟨⟨by decide +kernel, by decide +kernel⟩, List.mem_of_getElem? (i := 439) (by decide +kernel), List.mem_of_getElem? (i := 604) (by decide +kernel), List.mem_of_getElem? (i := 605) (by decide +kernel)⟩
theorem lw_p28 : lw_okq (⟨"TrackCrossingsModel", "offOf", "(I)V"⟩, 18) := ⟨⟨by decide +kernel, by decide +kernel⟩, List.mem_of_getElem? (i := 439) (by decide +kernel), List.mem_of_getElem? (i := 608) (by decide +kernel), List.mem_of_getElem? (i := 609) (by decide +kernel)⟩
theorem lw_p29 : lw_okq (⟨"TrackCrossingsModel", "isTone", "(I)Z"⟩, 18) := ⟨⟨by decide +kernel, by decide +kernel⟩, List.mem_of_getElem? (i := 439) (by decide +kernel), List.mem_of_getElem? (i := 633) (by decide +kernel), List.mem_of_getElem? (i := 634) (by decide +kernel)⟩
def lw_privs_2 : List (MethodName × Nat) := [(⟨"TrackCrossings", "countHeldOut", "()I"⟩, 7), (⟨"TrackCrossingsModel", "isTrack", "(I)Z"⟩, 18), (⟨"TrackCrossingsModel", "meet", "(II)Z"⟩, 18), (⟨"TrackCrossingsModel", "between", "(JJJ)J"⟩, 18), (⟨"TrackCrossingsModel", "hasHeight", "(IJ)Z"⟩, 18), (⟨"TrackCrossingsModel", "differ", "(II)Z"⟩, 18), (⟨"TrackCrossingsModel", "nets", "()V"⟩, 18), (⟨"TrackCrossingsModel", "members", "(I)I"⟩, 18), (⟨"TrackCrossingsModel", "offs", "()V"⟩, 18), (⟨"TrackCrossingsModel", "solves", "(I)V"⟩, 18), (⟨"TrackCrossingsModel", "clears", "(IIJ)V"⟩, 18), (⟨"TrackCrossingsModel", "backs", "(IJ)V"⟩, 18), (⟨"TrackCrossingsModel", "offOf", "(I)V"⟩, 18), (⟨"TrackCrossingsModel", "isTone", "(I)Z"⟩, 18)]
theorem lw_r2 : ∀ q ∈ lw_privs_2, lw_okq q := List.forall_mem_cons.mpr ⟨lw_p16, List.forall_mem_cons.mpr ⟨lw_p17, List.forall_mem_cons.mpr ⟨lw_p18, List.forall_mem_cons.mpr ⟨lw_p19, List.forall_mem_cons.mpr ⟨lw_p20, List.forall_mem_cons.mpr ⟨lw_p21, List.forall_mem_cons.mpr ⟨lw_p22, List.forall_mem_cons.mpr ⟨lw_p23, List.forall_mem_cons.mpr ⟨lw_p24, List.forall_mem_cons.mpr ⟨lw_p25, List.forall_mem_cons.mpr ⟨lw_p26, List.forall_mem_cons.mpr ⟨lw_p27, List.forall_mem_cons.mpr ⟨lw_p28, List.forall_mem_cons.mpr ⟨lw_p29, fun _ h => absurd h List.not_mem_nil⟩⟩⟩⟩⟩⟩⟩⟩⟩⟩⟩⟩⟩⟩
def lw_privs : List (MethodName × Nat) := lw_privs_1 ++ (lw_privs_2)
def lw_tbl : List Cond := k2_sels lw_privs ++ tables_1
theorem lw_privs_ok : ∀ q ∈ lw_privs, lw_okq q := by
  show ∀ q ∈ lw_privs_1 ++ (lw_privs_2), lw_okq q
  exact List.forall_mem_append.mpr ⟨lw_r1, lw_r2⟩

/-! ===== BEGIN words of one list among another's, by their places ===== -/
theorem goodIn_r {big : List Cond} (ws : List Cond) (ps : List Nat) (hp : ws = ps.filterMap (fun i => big[i]?)) (h : ws.all goodWord = true) : GoodIn big ws := by
  intro w hw
  have h1 := List.all_eq_true.mp h w hw
  rw [hp] at hw
  obtain ⟨i, -, hi⟩ := List.mem_filterMap.mp hw
  have hm : w ∈ big := by first | exact List.mem_of_getElem? hi | exact List.getElem?_mem hi
  exact ⟨hm, good_of_word h1⟩
theorem goodIn_app {big a b : List Cond} (ha : GoodIn big a) (hb : GoodIn big b) : GoodIn big (a ++ b) := fun w h => (List.mem_append.mp h).elim (ha w) (hb w)
theorem goodIn_ca {big a b : List Cond} {c : Cond} (ha : GoodIn big (c :: a)) (hb : GoodIn big b) : GoodIn big (c :: (a ++ b)) := fun w h => (List.mem_cons.mp h).elim (fun e => ha w (List.mem_cons.mpr (Or.inl e))) (fun h => (List.mem_append.mp h).elim (fun h => ha w (List.mem_cons.mpr (Or.inr h))) (hb w))
theorem goodIn_sub {big ws : List Cond} (hm : ∀ w ∈ ws, w ∈ big) (h : ws.all goodWord = true) : GoodIn big ws := fun w hw => ⟨hm w hw, good_of_word (List.all_eq_true.mp h w hw)⟩
/-! ===== END ===== -/

/-! ===== BEGIN new T[n][m]: the outer array a place, the inner ones among the pooled ===== -/
/-- f, but v at every address of l -/
def vr_up {α : Type} (f : Nat → α) (l : List Nat) (v : α) : Nat → α := fun a => if a ∈ l then v else f a
theorem vr_up_in {α : Type} {f : Nat → α} {l : List Nat} {v : α} {a : Nat} (h : a ∈ l) : vr_up f l v a = v := if_pos h
theorem vr_up_ne {α : Type} {f : Nat → α} {l : List Nat} {v : α} {a : Nat} (h : a ∉ l) : vr_up f l v a = f a := if_neg h
theorem vr_rows {L l : List Nat} {f : Nat → va_E} {e : va_E} (h : ∀ a, a ∈ l → a ∉ L) : va_pl L f ++ l.map (fun a => (a, e)) = va_pl (L ++ l) (vr_up f l e) := by
  unfold va_pl
  rw [List.map_append]
  congr 1
  · apply List.map_congr_left
    intro a ha
    rw [vr_up_ne (fun q => h a q ha)]
  · apply List.map_congr_left
    intro a ha
    rw [vr_up_in ha]
theorem vr_lay {X rows : va_W} {x : Nat × va_E} {pl : va_W} {D : va_G} {cl : List vw_C} {H : Heap} (hP : va_P D cl (((X ++ pl) ++ [x]) ++ rows) H) : va_P D cl ((X ++ [x]) ++ (pl ++ rows)) H := by
  rw [List.append_assoc (X ++ pl)] at hP
  have h := va_P.swap hP
  rw [← List.append_assoc X] at h
  have h2 := va_P.swap h
  rw [List.append_assoc (X ++ [x])] at h2
  exact h2
theorem vr_layD {X rows : va_W} {x : Nat × va_E} {pl : va_W} {A : Nat → Prop} (hD : va_D A (((X ++ pl) ++ [x]) ++ rows)) : va_D A ((X ++ [x]) ++ (pl ++ rows)) := by
  rw [List.append_assoc (X ++ pl)] at hD
  have h := va_D.swap hD
  rw [← List.append_assoc X] at h
  have h2 := va_D.swap h
  rw [List.append_assoc (X ++ [x])] at h2
  exact h2
theorem vr_outer (c : ClassId) (N h0 : Nat) : ∀ i : Nat, Jvm.Free.Multi.outerC c N h0 i = arrV c N (fun j => va_rf (if j < i then some (h0 + 1 + j) else none))
  | 0 => by
    show ({ cls := c, slots := Array.replicate N .null, vm := .none } : Cell) = _
    rw [arrV_new]
    refine congrArg (arrV c N) (funext fun j => ?_)
    simp [va_rf]
  | i + 1 => by
    show (Jvm.Free.Multi.outerC c N h0 i).setSlot i (.ref (h0 + 1 + i)) = _
    rw [vr_outer c N h0 i, arrV_store]
    refine congrArg (arrV c N) (funext fun j => ?_)
    by_cases e : j = i
    · subst e
      simp [updV, va_rf]
    · by_cases h : j < i
      · simp [updV, e, h, Nat.lt_succ_of_lt h]
      · simp [updV, e, h, show ¬ j < i + 1 by omega]
/-- an array over arrays, as the tables say it -/
def va_AOA (ty : FieldType) (U : State) : Prop := (Cond.arrayOver (.array ty)).before #[] U = true
theorem va_AOA.use {ty : FieldType} {A : Array Value} {U : State} (h : va_AOA ty U) : (Cond.arrayOver (.array ty)).before A U = true := h
section VGM
variable {p : Program} {l : Launch} {e : Env} {R : Room} {s : State} {m : MethodId} {args : Array Value} {below : List Frame} {meth : Method} {c : Code} {H : Heap} {locs : List Loc} {cells slots : Nat} {Q : State → Prop}
variable {cc : ByteArray} {pc : Nat} {ls : Array Slot} {rest : List Value} {D : va_G} {cl : List vw_C} {A : Nat → Prop} {a : Nat} {tys : List (ClassId × FieldType)} {ws : va_W} {H0 : Heap}
theorem va_mna {X : va_W} {L : List Nat} {f : Nat → va_E} {cc : ByteArray} (hexec : p.tables.exec = Jvm.exec) (hb : c.code = cc) {own : String} {index : Nat} {ty : FieldType} {cy : ClassId} (hown : s.vm.findClass own = some m.cls) (hclink : (Cond.classLink own index ("[" ++ (FieldType.array ty).toString)).before args s = true) (hover : va_AOA ty s) (harr : (Cond.arrayClass ty).before args s = true) (hcy : s.vm.findClass (FieldType.array ty).toString = some cy)
    (hK : va_K D cl tys s) (hP : va_P D cl (X ++ va_pl L f) H) (hD : va_D A (X ++ va_pl L f)) (hS : va_S A H0 H locs) (hA : ∀ q, H0.size ≤ q → A q) {n k : Int32} {N' K' : Nat} {z : vp_A} (hn : ¬ n < 0) (hk : ¬ k < 0) (hN : n.toNatClampNeg = N') (hM : k.toNatClampNeg = K')
    (hb1 : N' * 4 ≤ 536870912) (hb2 : K' * componentBytes ty ≤ 536870912) (hb3 : K' ≤ 536870912) (hdf : fits ty (defaultValue ty) = true) (hdd : (defaultValue ty).isDefault = true) (hcells : cells + (1 + N') ≤ R.cells) (hslots : slots + (N' + N' * K') ≤ R.slots) (hz : ∀ c : ClassId, Jvm.Free.Multi.innerC c K' (defaultValue ty) = vp_cell c z) (hdg : decode cc pc = .ok (.multianewarray index 2, 4))
    (kk : ∀ (q : Nat) (r : Nat → Nat) (cA : ClassId) (H1 : Heap), (∀ i j : Nat, i < N' → j < N' → r i = r j → i = j) → (∀ i : Nat, i < N' → r i ∉ L) → va_K D cl (tys ++ [(cA, .array ty)]) s →
      va_P D cl ((X ++ [(q, .inl (cA, N', .inr (.inr (.inr (.inr (fun i => if i < N' then some (r i) else none))))))]) ++ va_pl (L ++ (List.range N').map r) (vr_up f ((List.range N').map r) (.inl (cy, z)))) H1 → va_D A ((X ++ [(q, .inl (cA, N', .inr (.inr (.inr (.inr (fun i => if i < N' then some (r i) else none))))))]) ++ va_pl (L ++ (List.range N').map r) (vr_up f ((List.range N').map r) (.inl (cy, z)))) → va_S A H0 H1 locs →
      W p l e R s m args below meth c H1 locs (cells + 1 + N') (slots + N' + N' * K') Q (F0 m (pc + 4) ls (.ref q :: rest))) : W p l e R s m args below meth c H locs cells slots Q (F0 m pc ls (.int k :: .int n :: rest)) := by
  subst hN
  subst hM
  intro T hT Xs
  obtain ⟨vm₁, cA, comp, -, fA, fC, hO, -, X', step⟩ := Xs.multianewarray2F hexec hown hclink (va_AOA.use hover) harr (g := F0 m pc ls (.int k :: .int n :: rest)) rfl (by rw [hb]; exact hdg) rfl hn hk hb1 hb2 hb3 hdf hdd hcells hslots
  have ec : some cy = some comp := hcy.symm.trans fC
  cases ec
  generalize hF : Jvm.Free.Multi.fill (T.setVm vm₁) cA cy n.toNatClampNeg k.toNatClampNeg (defaultValue ty) n.toNatClampNeg = F at X' step
  have hTh : (T.setVm vm₁).heap = H := hT
  obtain ⟨f1, f2, -, -⟩ := Jvm.Free.Multi.fill_facts (T.setVm vm₁) cA cy n.toNatClampNeg k.toNatClampNeg (defaultValue ty) n.toNatClampNeg
  rw [hF, hTh] at f1 f2
  have hold : ∀ x : Nat, x < H.size → F.heap[x]? = H[x]? := fun x hx => by
    have := Jvm.Free.Multi.fill_old (T.setVm vm₁) cA cy n.toNatClampNeg k.toNatClampNeg (defaultValue ty) (a := x) (by rw [hTh]; exact hx) n.toNatClampNeg
    rw [hF, hTh] at this
    exact this
  have hrow : ∀ j : Nat, j < n.toNatClampNeg → F.heap[H.size + 1 + j]? = some (vp_cell cy z) := fun j hj => by
    have := Jvm.Free.Multi.fill_inner (T.setVm vm₁) cA cy n.toNatClampNeg k.toNatClampNeg (defaultValue ty) n.toNatClampNeg j hj
    rw [hF, hTh, hz] at this
    exact this
  have hout : Jvm.Free.Multi.outerC cA n.toNatClampNeg H.size n.toNatClampNeg = vp_cell cA (n.toNatClampNeg, .inr (.inr (.inr (.inr (fun i => if i < n.toNatClampNeg then some (H.size + 1 + i) else none))))) := by
    rw [vp_cell_q]
    exact vr_outer cA n.toNatClampNeg H.size n.toNatClampNeg
  rw [hout] at f2
  have hlt : ∀ a, a ∈ L → a < H.size := fun a ha => by
    obtain ⟨k9, hk9⟩ := va_pl_get (X := X) (f := f) ha
    exact (hP k9 _ hk9).lt
  have hnl : ∀ i : Nat, i < n.toNatClampNeg → H.size + 1 + i ∉ L := fun i _ h => by
    have := hlt _ h
    omega
  have hnm : ∀ a, a ∈ (List.range n.toNatClampNeg).map (fun i => H.size + 1 + i) → a ∉ L := fun a ha h => by
    obtain ⟨i, -, rfl⟩ := List.mem_map.mp ha
    have := hlt _ h
    omega
  have hP0 : va_P D cl (X ++ va_pl L f) F.heap := hP.kept (fun k9 x hx => hold x.1 ((hP k9 x hx).lt))
  have hP1 : va_P D cl ((X ++ va_pl L f) ++ [(H.size, .inl (cA, n.toNatClampNeg, .inr (.inr (.inr (.inr (fun i => if i < n.toNatClampNeg then some (H.size + 1 + i) else none))))))]) F.heap := hP0.app (fun k9 x hx => by
    have h0 : k9 < 1 := (List.getElem?_eq_some_iff.mp hx).1
    rw [show k9 = 0 by omega] at hx
    cases hx
    exact f2)
  have hP2 : va_P D cl (((X ++ va_pl L f) ++ [(H.size, .inl (cA, n.toNatClampNeg, .inr (.inr (.inr (.inr (fun i => if i < n.toNatClampNeg then some (H.size + 1 + i) else none))))))]) ++ ((List.range n.toNatClampNeg).map (fun i => H.size + 1 + i)).map (fun a => (a, .inl (cy, z)))) F.heap := hP1.app (fun k9 x hx => by
    obtain ⟨a, ha, rfl⟩ := List.mem_map.mp (List.mem_of_getElem? hx)
    obtain ⟨i, hi, rfl⟩ := List.mem_map.mp ha
    exact hrow i (List.mem_range.mp hi))
  have hD2 : va_D A (((X ++ va_pl L f) ++ [(H.size, .inl (cA, n.toNatClampNeg, .inr (.inr (.inr (.inr (fun i => if i < n.toNatClampNeg then some (H.size + 1 + i) else none))))))]) ++ ((List.range n.toNatClampNeg).map (fun i => H.size + 1 + i)).map (fun a => (a, .inl (cy, z)))) := by
    have hD1 := hD.push (e := .inl (cA, n.toNatClampNeg, .inr (.inr (.inr (.inr (fun i => if i < n.toNatClampNeg then some (H.size + 1 + i) else none)))))) hP rfl (hA _ hS.1)
    generalize hW1 : (X ++ va_pl L f) ++ [(H.size, .inl (cA, n.toNatClampNeg, .inr (.inr (.inr (.inr (fun i => if i < n.toNatClampNeg then some (H.size + 1 + i) else none))))))] = W1 at hD1 hP1 ⊢
    have hle : ∀ (k9 : Nat) (x : Nat × va_E), W1[k9]? = some x → x.1 ≤ H.size := fun k9 x hx => by
      rw [← hW1] at hx
      by_cases hl : k9 < (X ++ va_pl L f).length
      · rw [List.getElem?_append_left hl] at hx
        exact Nat.le_of_lt ((hP k9 x hx).lt)
      · rw [List.getElem?_append_right (by omega)] at hx
        have h0 : k9 - (X ++ va_pl L f).length < 1 := (List.getElem?_eq_some_iff.mp hx).1
        rw [show k9 - (X ++ va_pl L f).length = 0 by omega] at hx
        cases hx
        exact Nat.le_refl _
    have hr : ∀ (k9 : Nat) (x : Nat × va_E), (((List.range n.toNatClampNeg).map (fun i => H.size + 1 + i)).map (fun a => ((a, .inl (cy, z)) : Nat × va_E)))[k9]? = some x → x.1 = H.size + 1 + k9 := fun k9 x hx => by
      rw [List.getElem?_map, List.getElem?_map] at hx
      by_cases h9 : k9 < n.toNatClampNeg
      · rw [List.getElem?_range h9] at hx
        cases hx
        rfl
      · have hn0 : (List.range n.toNatClampNeg)[k9]? = none := List.getElem?_eq_none (by rw [List.length_range]; omega)
        rw [hn0] at hx
        cases hx
    refine ⟨fun i j x y hi hj hxy => ?_, fun k9 x hx => ?_⟩
    · by_cases h1 : i < W1.length <;> by_cases h2 : j < W1.length
      · rw [List.getElem?_append_left h1] at hi
        rw [List.getElem?_append_left h2] at hj
        exact hD1.1 i j x y hi hj hxy
      · rw [List.getElem?_append_left h1] at hi
        rw [List.getElem?_append_right (by omega)] at hj
        have := hle _ _ hi
        have := hr _ _ hj
        omega
      · rw [List.getElem?_append_right (by omega)] at hi
        rw [List.getElem?_append_left h2] at hj
        have := hle _ _ hj
        have := hr _ _ hi
        omega
      · rw [List.getElem?_append_right (by omega)] at hi hj
        have := hr _ _ hi
        have := hr _ _ hj
        omega
    · by_cases h1 : k9 < W1.length
      · rw [List.getElem?_append_left h1] at hx
        exact hD1.2 k9 x hx
      · rw [List.getElem?_append_right (by omega)] at hx
        have := hr _ _ hx
        exact hA _ (by have := hS.1; omega)
  have hAr : ArrOfT s cA (.array ty) := fun N9 z9 => by
    obtain ⟨-, k9, hk9, cm9, hkk9⟩ := (hO 0 0 0).1
    exact ⟨(fun q hq => by cases hq), k9, hk9, cm9, hkk9⟩
  have hK2 : va_K D cl (tys ++ [(cA, .array ty)]) s := ⟨hK.1, fun k9 x hx => by
    by_cases hl : k9 < tys.length
    · rw [List.getElem?_append_left hl] at hx
      exact hK.2 k9 x hx
    · rw [List.getElem?_append_right (by omega)] at hx
      have h0 : k9 - tys.length < 1 := (List.getElem?_eq_some_iff.mp hx).1
      rw [show k9 - tys.length = 0 by omega] at hx
      cases hx
      exact ⟨hAr, fA⟩⟩
  obtain ⟨t, a1, b1⟩ := kk H.size (fun i => H.size + 1 + i) cA F.heap (fun i j _ _ h => by have h9 : H.size + 1 + i = H.size + 1 + j := h; omega) hnl hK2 (by rw [← vr_rows hnm]; exact vr_lay hP2) (by rw [← vr_rows hnm]; exact vr_layD hD2) ⟨by rw [f1]; have := hS.1; omega, fun x h1 h2 => (hold x (Nat.lt_of_lt_of_le h1 hS.1)).trans (hS.2.1 x h1 h2), hS.2.2⟩ F rfl X'
  refine ⟨t, step t ?_, b1⟩
  have e : T.heap.size = H.size := by rw [hT]
  rw [e]
  exact a1
end VGM
/-! ===== END ===== -/

/-! ===== BEGIN printed: names, fields, word lists, decode rows ===== -/
def RX0 : String := "TrackCrossings$Closing"
def TX0 : u_T := fun k => match k with
  | 0 => ("TrackCrossings$Closing", "offs", "[LTrackCrossings$Fraction;", true)
  | 1 => ("TrackCrossings$Closing", "differenceCount", "I", false)
  | 2 => ("TrackCrossings$Closing", "netCount", "I", false)
  | 3 => ("TrackCrossings$Closing", "aloneCount", "I", false)
  | 4 => ("TrackCrossings$Closing", "squares", "J", false)
  | 5 => ("TrackCrossings$Closing", "differences", "[[I", true)
  | 6 => ("TrackCrossings$Closing", "netOf", "[I", true)
  | 7 => ("TrackCrossings$Closing", "members", "[I", true)
  | 8 => ("TrackCrossings$Closing", "rows", "[[J", true)
  | 9 => ("TrackCrossings$Closing", "solution", "[J", true)
  | 10 => ("TrackCrossings$Closing", "closedAbove", "J", false)
  | _ => ("TrackCrossings$Closing", "closedBelow", "J", false)
def tyX0 : Nat → FieldType := fun k => match k with
  | 0 => .array (.object "TrackCrossings$Fraction")
  | 1 => .int
  | 2 => .int
  | 3 => .int
  | 4 => .long
  | 5 => .array (.array .int)
  | 6 => .array .int
  | 7 => .array .int
  | 8 => .array (.array .long)
  | 9 => .array .long
  | 10 => .long
  | _ => .long
abbrev wsX00 : List Cond := u_ws RX0 TX0 12
theorem nmX0 : ∀ a, a < 12 → ∀ b, b < 12 → a ≠ b → (TX0 a).2.1 ≠ (TX0 b).2.1 := by decide +kernel
theorem tyX0_ok : ∀ k, k < 12 → parseFieldDescriptor (TX0 k).2.2.1 = some (tyX0 k) := by decide +kernel
abbrev cX0_init : ByteArray := prog_2_method_1_code
def yX0_init : MethodName := ⟨RX0, "<init>", "()V"⟩
abbrev cX0_close : ByteArray := prog_2_method_2_code
def yX0_close : MethodName := ⟨RX0, "close", "([LTrackCrossings$Track;ILTrackCrossings$Crossing;)V"⟩
abbrev cX0_squaresLeft : ByteArray := prog_2_method_3_code
def yX0_squaresLeft : MethodName := ⟨RX0, "squaresLeft", "()J"⟩
abbrev cX0_startAnew : ByteArray := prog_2_method_4_code
def yX0_startAnew : MethodName := ⟨RX0, "startAnew", "()V"⟩
abbrev cX0_takeDifference : ByteArray := prog_2_method_5_code
def yX0_takeDifference : MethodName := ⟨RX0, "takeDifference", "(III)V"⟩
abbrev cX0_joinNets : ByteArray := prog_2_method_6_code
def yX0_joinNets : MethodName := ⟨RX0, "joinNets", "(II)V"⟩
abbrev cX0_gatherMembers : ByteArray := prog_2_method_7_code
def yX0_gatherMembers : MethodName := ⟨RX0, "gatherMembers", "(II)I"⟩
abbrev cX0_settleNet : ByteArray := prog_2_method_8_code
def yX0_settleNet : MethodName := ⟨RX0, "settleNet", "(I)V"⟩
abbrev cX0_fillRows : ByteArray := prog_2_method_9_code
def yX0_fillRows : MethodName := ⟨RX0, "fillRows", "(I)V"⟩
abbrev cX0_addToRows : ByteArray := prog_2_method_10_code
def yX0_addToRows : MethodName := ⟨RX0, "addToRows", "(IIII)V"⟩
abbrev cX0_solveRows : ByteArray := prog_2_method_11_code
def yX0_solveRows : MethodName := ⟨RX0, "solveRows", "(I)J"⟩
abbrev cX0_clearRow : ByteArray := prog_2_method_12_code
def yX0_clearRow : MethodName := ⟨RX0, "clearRow", "(IIIJ)V"⟩
abbrev cX0_tellOffs : ByteArray := prog_2_method_13_code
def yX0_tellOffs : MethodName := ⟨RX0, "tellOffs", "(IJ)V"⟩
abbrev cX0_addClosed : ByteArray := prog_2_method_14_code
def yX0_addClosed : MethodName := ⟨RX0, "addClosed", "(IJ)V"⟩
def RX1 : String := "TrackCrossings$Crossing"
def TX1 : u_T := fun k => match k with
  | 0 => ("TrackCrossings$Crossing", "isThere", "Z", false)
  | 1 => ("TrackCrossings$Crossing", "below", "J", false)
  | 2 => ("TrackCrossings$Crossing", "shareA", "J", false)
  | _ => ("TrackCrossings$Crossing", "shareB", "J", false)
def tyX1 : Nat → FieldType := fun k => match k with
  | 0 => .boolean
  | 1 => .long
  | 2 => .long
  | _ => .long
abbrev wsX10 : List Cond := u_ws RX1 TX1 4
theorem nmX1 : ∀ a, a < 4 → ∀ b, b < 4 → a ≠ b → (TX1 a).2.1 ≠ (TX1 b).2.1 := by decide +kernel
theorem tyX1_ok : ∀ k, k < 4 → parseFieldDescriptor (TX1 k).2.2.1 = some (tyX1 k) := by decide +kernel
abbrev cX1_init : ByteArray := prog_3_method_1_code
def yX1_init : MethodName := ⟨RX1, "<init>", "()V"⟩
abbrev cX1_find : ByteArray := prog_3_method_2_code
def yX1_find : MethodName := ⟨RX1, "find", "(LTrackCrossings$Track;LTrackCrossings$Track;)V"⟩
abbrev cX1_aboveOf : ByteArray := prog_3_method_3_code
def yX1_aboveOf : MethodName := ⟨RX1, "aboveOf", "(ILTrackCrossings$Track;LTrackCrossings$Track;)J"⟩
abbrev cX1_differenceOf : ByteArray := prog_3_method_4_code
def yX1_differenceOf : MethodName := ⟨RX1, "differenceOf", "(LTrackCrossings$Track;LTrackCrossings$Track;)I"⟩
def RX2 : String := "TrackCrossings$Fraction"
def TX2 : u_T := fun k => match k with
  | 0 => ("TrackCrossings$Fraction", "above", "J", false)
  | _ => ("TrackCrossings$Fraction", "below", "J", false)
def tyX2 : Nat → FieldType := fun k => match k with
  | 0 => .long
  | _ => .long
abbrev wsX20 : List Cond := u_ws RX2 TX2 2
theorem nmX2 : ∀ a, a < 2 → ∀ b, b < 2 → a ≠ b → (TX2 a).2.1 ≠ (TX2 b).2.1 := by decide +kernel
theorem tyX2_ok : ∀ k, k < 2 → parseFieldDescriptor (TX2 k).2.2.1 = some (tyX2 k) := by decide +kernel
abbrev cX2_init : ByteArray := prog_4_method_1_code
def yX2_init : MethodName := ⟨RX2, "<init>", "()V"⟩
abbrev cX2_become : ByteArray := prog_4_method_2_code
def yX2_become : MethodName := ⟨RX2, "become", "(JJ)V"⟩
abbrev cX2_partOf : ByteArray := prog_4_method_3_code
def yX2_partOf : MethodName := ⟨RX2, "partOf", "(I)J"⟩
abbrev cX2_roundedDown : ByteArray := prog_4_method_4_code
def yX2_roundedDown : MethodName := ⟨RX2, "roundedDown", "()J"⟩
abbrev cX2_greatestShared : ByteArray := prog_4_method_5_code
def yX2_greatestShared : MethodName := ⟨RX2, "greatestShared", "(JJ)J"⟩
def RX3 : String := "TrackCrossings$Tones"
def TX3 : u_T := fun k => match k with
  | 0 => ("TrackCrossings$Tones", "periods", "[I", true)
  | _ => ("TrackCrossings$Tones", "count", "I", false)
def tyX3 : Nat → FieldType := fun k => match k with
  | 0 => .array .int
  | _ => .int
abbrev wsX30 : List Cond := u_ws RX3 TX3 2
theorem nmX3 : ∀ a, a < 2 → ∀ b, b < 2 → a ≠ b → (TX3 a).2.1 ≠ (TX3 b).2.1 := by decide +kernel
theorem tyX3_ok : ∀ k, k < 2 → parseFieldDescriptor (TX3 k).2.2.1 = some (tyX3 k) := by decide +kernel
abbrev cX3_init : ByteArray := prog_5_method_1_code
def yX3_init : MethodName := ⟨RX3, "<init>", "()V"⟩
abbrev cX3_has : ByteArray := prog_5_method_2_code
def yX3_has : MethodName := ⟨RX3, "has", "(I)Z"⟩
abbrev cX3_distance : ByteArray := prog_5_method_3_code
def yX3_distance : MethodName := ⟨RX3, "distance", "(II)J"⟩
abbrev cX3_areToldApart : ByteArray := prog_5_method_4_code
def yX3_areToldApart : MethodName := ⟨RX3, "areToldApart", "(IIII)Z"⟩
def RX4 : String := "TrackCrossings$Track"
def TX4 : u_T := fun k => match k with
  | 0 => ("TrackCrossings$Track", "startX", "I", false)
  | 1 => ("TrackCrossings$Track", "startY", "I", false)
  | 2 => ("TrackCrossings$Track", "startTime", "I", false)
  | 3 => ("TrackCrossings$Track", "stepX", "I", false)
  | 4 => ("TrackCrossings$Track", "stepY", "I", false)
  | 5 => ("TrackCrossings$Track", "stepTime", "I", false)
  | 6 => ("TrackCrossings$Track", "heldOut", "Z", false)
  | _ => ("TrackCrossings$Track", "heights", "[I", true)
def tyX4 : Nat → FieldType := fun k => match k with
  | 0 => .int
  | 1 => .int
  | 2 => .int
  | 3 => .int
  | 4 => .int
  | 5 => .int
  | 6 => .boolean
  | _ => .array .int
abbrev wsX40 : List Cond := u_ws RX4 TX4 8
theorem nmX4 : ∀ a, a < 8 → ∀ b, b < 8 → a ≠ b → (TX4 a).2.1 ≠ (TX4 b).2.1 := by decide +kernel
theorem tyX4_ok : ∀ k, k < 8 → parseFieldDescriptor (TX4 k).2.2.1 = some (tyX4 k) := by decide +kernel
abbrev cX4_init : ByteArray := prog_6_method_1_code
def yX4_init : MethodName := ⟨RX4, "<init>", "()V"⟩
abbrev cX4_runFrom : ByteArray := prog_6_method_2_code
def yX4_runFrom : MethodName := ⟨RX4, "runFrom", "(III)V"⟩
abbrev cX4_runTo : ByteArray := prog_6_method_3_code
def yX4_runTo : MethodName := ⟨RX4, "runTo", "(III)V"⟩
abbrev cX4_heightTimesBelow : ByteArray := prog_6_method_4_code
def yX4_heightTimesBelow : MethodName := ⟨RX4, "heightTimesBelow", "(JJ)J"⟩
abbrev cX4_readingsIn : ByteArray := prog_6_method_5_code
def yX4_readingsIn : MethodName := ⟨RX4, "readingsIn", "(III)I"⟩
abbrev cX4_heightsIn : ByteArray := prog_6_method_6_code
def yX4_heightsIn : MethodName := ⟨RX4, "heightsIn", "(III)J"⟩
abbrev cX4_isIn : ByteArray := prog_6_method_7_code
def yX4_isIn : MethodName := ⟨RX4, "isIn", "(IIII)Z"⟩
def RX5 : String := "TrackCrossings"
def TX5 : u_T := fun k => match k with
  | 0 => ("TrackCrossings", "tracks", "[LTrackCrossings$Track;", true)
  | 1 => ("TrackCrossings", "crossing", "LTrackCrossings$Crossing;", true)
  | 2 => ("TrackCrossings", "closing", "LTrackCrossings$Closing;", true)
  | 3 => ("TrackCrossings", "tones", "LTrackCrossings$Tones;", true)
  | 4 => ("TrackCrossings", "fraction", "LTrackCrossings$Fraction;", true)
  | 5 => ("TrackCrossings", "trackCount", "I", false)
  | _ => ("TrackCrossings", "closingIsOld", "Z", false)
def tyX5 : Nat → FieldType := fun k => match k with
  | 0 => .array (.object "TrackCrossings$Track")
  | 1 => .object "TrackCrossings$Crossing"
  | 2 => .object "TrackCrossings$Closing"
  | 3 => .object "TrackCrossings$Tones"
  | 4 => .object "TrackCrossings$Fraction"
  | 5 => .int
  | _ => .boolean
abbrev wsX50 : List Cond := u_ws RX5 TX5 7
theorem nmX5 : ∀ a, a < 7 → ∀ b, b < 7 → a ≠ b → (TX5 a).2.1 ≠ (TX5 b).2.1 := by decide +kernel
theorem tyX5_ok : ∀ k, k < 7 → parseFieldDescriptor (TX5 k).2.2.1 = some (tyX5 k) := by decide +kernel
abbrev cX5_init : ByteArray := prog_1_method_1_code
def yX5_init : MethodName := ⟨RX5, "<init>", "()V"⟩
abbrev cX5_track : ByteArray := prog_1_method_2_code
def yX5_track : MethodName := ⟨RX5, "track", "(IIIIII)I"⟩
abbrev cX5_read : ByteArray := prog_1_method_3_code
def yX5_read : MethodName := ⟨RX5, "read", "(III)I"⟩
abbrev cX5_hold : ByteArray := prog_1_method_4_code
def yX5_hold : MethodName := ⟨RX5, "hold", "(IZ)I"⟩
abbrev cX5_cross : ByteArray := prog_1_method_5_code
def yX5_cross : MethodName := ⟨RX5, "cross", "(IIII)J"⟩
abbrev cX5_crosses : ByteArray := prog_1_method_6_code
def yX5_crosses : MethodName := ⟨RX5, "crosses", "(II)I"⟩
abbrev cX5_difference : ByteArray := prog_1_method_7_code
def yX5_difference : MethodName := ⟨RX5, "difference", "(II)I"⟩
abbrev cX5_net : ByteArray := prog_1_method_8_code
def yX5_net : MethodName := ⟨RX5, "net", "(I)I"⟩
abbrev cX5_off : ByteArray := prog_1_method_9_code
def yX5_off : MethodName := ⟨RX5, "off", "(II)J"⟩
abbrev cX5_before : ByteArray := prog_1_method_10_code
def yX5_before : MethodName := ⟨RX5, "before", "()J"⟩
abbrev cX5_behind : ByteArray := prog_1_method_11_code
def yX5_behind : MethodName := ⟨RX5, "behind", "()J"⟩
abbrev cX5_loop : ByteArray := prog_1_method_12_code
def yX5_loop : MethodName := ⟨RX5, "loop", "(III)I"⟩
abbrev cX5_tone : ByteArray := prog_1_method_13_code
def yX5_tone : MethodName := ⟨RX5, "tone", "(I)I"⟩
abbrev cX5_seen : ByteArray := prog_1_method_14_code
def yX5_seen : MethodName := ⟨RX5, "seen", "(III)J"⟩
abbrev cX5_apart : ByteArray := prog_1_method_15_code
def yX5_apart : MethodName := ⟨RX5, "apart", "(IIII)I"⟩
abbrev cX5_box : ByteArray := prog_1_method_16_code
def yX5_box : MethodName := ⟨RX5, "box", "(IIII)J"⟩
abbrev cX5_count : ByteArray := prog_1_method_17_code
def yX5_count : MethodName := ⟨RX5, "count", "(I)I"⟩
abbrev cX5_countReadings : ByteArray := prog_1_method_18_code
def yX5_countReadings : MethodName := ⟨RX5, "countReadings", "()I"⟩
abbrev cX5_countHeldOut : ByteArray := prog_1_method_19_code
def yX5_countHeldOut : MethodName := ⟨RX5, "countHeldOut", "()I"⟩
abbrev cX5_bringClosingUpToDate : ByteArray := prog_1_method_20_code
def yX5_bringClosingUpToDate : MethodName := ⟨RX5, "bringClosingUpToDate", "()V"⟩
abbrev cX5_isTrack : ByteArray := prog_1_method_21_code
def yX5_isTrack : MethodName := ⟨RX5, "isTrack", "(I)Z"⟩
abbrev cX5_areTwoTracks : ByteArray := prog_1_method_22_code
def yX5_areTwoTracks : MethodName := ⟨RX5, "areTwoTracks", "(II)Z"⟩
abbrev cX5_isPart : ByteArray := prog_1_method_23_code
def yX5_isPart : MethodName := ⟨RX5, "isPart", "(I)Z"⟩
abbrev cX5_isOnMap : ByteArray := prog_1_method_24_code
def yX5_isOnMap : MethodName := ⟨RX5, "isOnMap", "(I)Z"⟩
abbrev cX5_isWithin : ByteArray := prog_1_method_25_code
def yX5_isWithin : MethodName := ⟨RX5, "isWithin", "(III)Z"⟩
def RX6 : String := "TrackCrossingsModel"
def TX6 : u_T := fun k => match k with
  | 0 => ("TrackCrossingsModel", "tracks", "I", false)
  | 1 => ("TrackCrossingsModel", "ends", "[I", true)
  | 2 => ("TrackCrossingsModel", "heights", "[I", true)
  | 3 => ("TrackCrossingsModel", "isOut", "[Z", true)
  | 4 => ("TrackCrossingsModel", "tones", "I", false)
  | 5 => ("TrackCrossingsModel", "periods", "[I", true)
  | 6 => ("TrackCrossingsModel", "below", "J", false)
  | 7 => ("TrackCrossingsModel", "shareA", "J", false)
  | 8 => ("TrackCrossingsModel", "shareB", "J", false)
  | 9 => ("TrackCrossingsModel", "height", "J", false)
  | 10 => ("TrackCrossingsModel", "difference", "J", false)
  | 11 => ("TrackCrossingsModel", "net", "[I", true)
  | 12 => ("TrackCrossingsModel", "member", "[I", true)
  | 13 => ("TrackCrossingsModel", "rows", "[J", true)
  | 14 => ("TrackCrossingsModel", "above", "[J", true)
  | 15 => ("TrackCrossingsModel", "under", "[J", true)
  | 16 => ("TrackCrossingsModel", "offAbove", "J", false)
  | _ => ("TrackCrossingsModel", "offBelow", "J", false)
def tyX6 : Nat → FieldType := fun k => match k with
  | 0 => .int
  | 1 => .array .int
  | 2 => .array .int
  | 3 => .array .boolean
  | 4 => .int
  | 5 => .array .int
  | 6 => .long
  | 7 => .long
  | 8 => .long
  | 9 => .long
  | 10 => .long
  | 11 => .array .int
  | 12 => .array .int
  | 13 => .array .long
  | 14 => .array .long
  | 15 => .array .long
  | 16 => .long
  | _ => .long
abbrev wsX60 : List Cond := u_ws RX6 TX6 18
theorem nmX6 : ∀ a, a < 18 → ∀ b, b < 18 → a ≠ b → (TX6 a).2.1 ≠ (TX6 b).2.1 := by decide +kernel
theorem tyX6_ok : ∀ k, k < 18 → parseFieldDescriptor (TX6 k).2.2.1 = some (tyX6 k) := by decide +kernel
abbrev cX6_init : ByteArray := prog_8_method_1_code
def yX6_init : MethodName := ⟨RX6, "<init>", "()V"⟩
abbrev cX6_in : ByteArray := prog_8_method_2_code
def yX6_in : MethodName := ⟨RX6, "in", "(JJJ)Z"⟩
abbrev cX6_isTrack : ByteArray := prog_8_method_3_code
def yX6_isTrack : MethodName := ⟨RX6, "isTrack", "(I)Z"⟩
abbrev cX6_isSpot : ByteArray := prog_8_method_4_code
def yX6_isSpot : MethodName := ⟨RX6, "isSpot", "(II)Z"⟩
abbrev cX6_track : ByteArray := prog_8_method_5_code
def yX6_track : MethodName := ⟨RX6, "track", "(IIIIII)I"⟩
abbrev cX6_read : ByteArray := prog_8_method_6_code
def yX6_read : MethodName := ⟨RX6, "read", "(III)I"⟩
abbrev cX6_hold : ByteArray := prog_8_method_7_code
def yX6_hold : MethodName := ⟨RX6, "hold", "(IZ)I"⟩
abbrev cX6_meet : ByteArray := prog_8_method_8_code
def yX6_meet : MethodName := ⟨RX6, "meet", "(II)Z"⟩
abbrev cX6_between : ByteArray := prog_8_method_9_code
def yX6_between : MethodName := ⟨RX6, "between", "(JJJ)J"⟩
abbrev cX6_hasHeight : ByteArray := prog_8_method_10_code
def yX6_hasHeight : MethodName := ⟨RX6, "hasHeight", "(IJ)Z"⟩
abbrev cX6_common : ByteArray := prog_8_method_11_code
def yX6_common : MethodName := ⟨RX6, "common", "(JJ)J"⟩
abbrev cX6_part : ByteArray := prog_8_method_12_code
def yX6_part : MethodName := ⟨RX6, "part", "(JJI)J"⟩
abbrev cX6_cross : ByteArray := prog_8_method_13_code
def yX6_cross : MethodName := ⟨RX6, "cross", "(IIII)J"⟩
abbrev cX6_crosses : ByteArray := prog_8_method_14_code
def yX6_crosses : MethodName := ⟨RX6, "crosses", "(II)I"⟩
abbrev cX6_down : ByteArray := prog_8_method_15_code
def yX6_down : MethodName := ⟨RX6, "down", "(JJ)J"⟩
abbrev cX6_differ : ByteArray := prog_8_method_16_code
def yX6_differ : MethodName := ⟨RX6, "differ", "(II)Z"⟩
abbrev cX6_difference : ByteArray := prog_8_method_17_code
def yX6_difference : MethodName := ⟨RX6, "difference", "(II)I"⟩
abbrev cX6_nets : ByteArray := prog_8_method_18_code
def yX6_nets : MethodName := ⟨RX6, "nets", "()V"⟩
abbrev cX6_members : ByteArray := prog_8_method_19_code
def yX6_members : MethodName := ⟨RX6, "members", "(I)I"⟩
abbrev cX6_net : ByteArray := prog_8_method_20_code
def yX6_net : MethodName := ⟨RX6, "net", "(I)I"⟩
abbrev cX6_solves : ByteArray := prog_8_method_21_code
def yX6_solves : MethodName := ⟨RX6, "solves", "(I)V"⟩
abbrev cX6_clears : ByteArray := prog_8_method_22_code
def yX6_clears : MethodName := ⟨RX6, "clears", "(IIJ)V"⟩
abbrev cX6_backs : ByteArray := prog_8_method_23_code
def yX6_backs : MethodName := ⟨RX6, "backs", "(IJ)V"⟩
abbrev cX6_offs : ByteArray := prog_8_method_24_code
def yX6_offs : MethodName := ⟨RX6, "offs", "()V"⟩
abbrev cX6_offOf : ByteArray := prog_8_method_25_code
def yX6_offOf : MethodName := ⟨RX6, "offOf", "(I)V"⟩
abbrev cX6_off : ByteArray := prog_8_method_26_code
def yX6_off : MethodName := ⟨RX6, "off", "(II)J"⟩
abbrev cX6_before : ByteArray := prog_8_method_27_code
def yX6_before : MethodName := ⟨RX6, "before", "()J"⟩
abbrev cX6_behind : ByteArray := prog_8_method_28_code
def yX6_behind : MethodName := ⟨RX6, "behind", "()J"⟩
abbrev cX6_loop : ByteArray := prog_8_method_29_code
def yX6_loop : MethodName := ⟨RX6, "loop", "(III)I"⟩
abbrev cX6_tone : ByteArray := prog_8_method_30_code
def yX6_tone : MethodName := ⟨RX6, "tone", "(I)I"⟩
abbrev cX6_isTone : ByteArray := prog_8_method_31_code
def yX6_isTone : MethodName := ⟨RX6, "isTone", "(I)Z"⟩
abbrev cX6_least : ByteArray := prog_8_method_32_code
def yX6_least : MethodName := ⟨RX6, "least", "(JJ)J"⟩
abbrev cX6_seen : ByteArray := prog_8_method_33_code
def yX6_seen : MethodName := ⟨RX6, "seen", "(III)J"⟩
abbrev cX6_apart : ByteArray := prog_8_method_34_code
def yX6_apart : MethodName := ⟨RX6, "apart", "(IIII)I"⟩
abbrev cX6_box : ByteArray := prog_8_method_35_code
def yX6_box : MethodName := ⟨RX6, "box", "(IIII)J"⟩
abbrev cX6_count : ByteArray := prog_8_method_36_code
def yX6_count : MethodName := ⟨RX6, "count", "(I)I"⟩
def RJ9 : String := "java/lang/Math"
def TJ9 : u_T := fun k => match k with
  | _ => ("", "", "", false)
def tyJ9 : Nat → FieldType := fun k => match k with
  | _ => .int
abbrev wsJ90 : List Cond := u_ws RJ9 TJ9 0
theorem nmJ9 : ∀ a, a < 0 → ∀ b, b < 0 → a ≠ b → (TJ9 a).2.1 ≠ (TJ9 b).2.1 := by decide +kernel
theorem tyJ9_ok : ∀ k, k < 0 → parseFieldDescriptor (TJ9 k).2.2.1 = some (tyJ9 k) := by decide +kernel
abbrev cJ9_floorDiv_7cf53 : ByteArray := prog_9_method_47_code
def yJ9_floorDiv_7cf53 : MethodName := ⟨RJ9, "floorDiv", "(II)I"⟩
abbrev cJ9_floorDiv_f86c9 : ByteArray := prog_9_method_49_code
def yJ9_floorDiv_f86c9 : MethodName := ⟨RJ9, "floorDiv", "(JJ)J"⟩
abbrev cJ9_abs_067f4 : ByteArray := prog_9_method_61_code
def yJ9_abs_067f4 : MethodName := ⟨RJ9, "abs", "(J)J"⟩
abbrev cJ9_max_7cf53 : ByteArray := prog_9_method_65_code
def yJ9_max_7cf53 : MethodName := ⟨RJ9, "max", "(II)I"⟩
abbrev cJ9_min_7cf53 : ByteArray := prog_9_method_69_code
def yJ9_min_7cf53 : MethodName := ⟨RJ9, "min", "(II)I"⟩
def RL : String := "TrackCrossingsLaw"
abbrev cL_law : ByteArray := code
def yL_law : MethodName := ⟨RL, "law", "([I)Z"⟩
end
section
theorem dX0_init_0 : decode cX0_init 0 = .ok (.aload_n 0, 1) := by decide +kernel
theorem dX0_init_1 : decode cX0_init 1 = .ok (.invokespecial 3, 3) := by decide +kernel
theorem dX0_init_4 : decode cX0_init 4 = .ok (.aload_n 0, 1) := by decide +kernel
theorem dX0_init_5 : decode cX0_init 5 = .ok (.bipush 8, 2) := by decide +kernel
theorem dX0_init_7 : decode cX0_init 7 = .ok (.anewarray 9, 3) := by decide +kernel
theorem dX0_init_10 : decode cX0_init 10 = .ok (.putfield 11, 3) := by decide +kernel
theorem dX0_init_13 : decode cX0_init 13 = .ok (.iconst 0, 1) := by decide +kernel
theorem dX0_init_14 : decode cX0_init 14 = .ok (.istore_n 1, 1) := by decide +kernel
theorem dX0_init_15 : decode cX0_init 15 = .ok (.iload_n 1, 1) := by decide +kernel
theorem dX0_init_16 : decode cX0_init 16 = .ok (.bipush 8, 2) := by decide +kernel
theorem dX0_init_18 : decode cX0_init 18 = .ok (.if_icmp .ge 22, 3) := by decide +kernel
theorem dX0_init_21 : decode cX0_init 21 = .ok (.aload_n 0, 1) := by decide +kernel
theorem dX0_init_22 : decode cX0_init 22 = .ok (.getfield 11, 3) := by decide +kernel
theorem dX0_init_25 : decode cX0_init 25 = .ok (.iload_n 1, 1) := by decide +kernel
theorem dX0_init_26 : decode cX0_init 26 = .ok (.new 9, 3) := by decide +kernel
theorem dX0_init_29 : decode cX0_init 29 = .ok (.dup, 1) := by decide +kernel
theorem dX0_init_30 : decode cX0_init 30 = .ok (.invokespecial 17, 3) := by decide +kernel
theorem dX0_init_33 : decode cX0_init 33 = .ok (.aastore, 1) := by decide +kernel
theorem dX0_init_34 : decode cX0_init 34 = .ok (.iinc 1 1, 3) := by decide +kernel
theorem dX0_init_37 : decode cX0_init 37 = .ok (.goto (-22), 3) := by decide +kernel
theorem dX0_init_40 : decode cX0_init 40 = .ok (.aload_n 0, 1) := by decide +kernel
theorem dX0_init_41 : decode cX0_init 41 = .ok (.bipush 8, 2) := by decide +kernel
theorem dX0_init_43 : decode cX0_init 43 = .ok (.bipush 8, 2) := by decide +kernel
theorem dX0_init_45 : decode cX0_init 45 = .ok (.multianewarray 18 2, 4) := by decide +kernel
theorem dX0_init_49 : decode cX0_init 49 = .ok (.putfield 20, 3) := by decide +kernel
theorem dX0_init_52 : decode cX0_init 52 = .ok (.aload_n 0, 1) := by decide +kernel
theorem dX0_init_53 : decode cX0_init 53 = .ok (.bipush 8, 2) := by decide +kernel
theorem dX0_init_55 : decode cX0_init 55 = .ok (.newarray .int, 2) := by decide +kernel
theorem dX0_init_57 : decode cX0_init 57 = .ok (.putfield 23, 3) := by decide +kernel
theorem dX0_init_60 : decode cX0_init 60 = .ok (.aload_n 0, 1) := by decide +kernel
theorem dX0_init_61 : decode cX0_init 61 = .ok (.bipush 8, 2) := by decide +kernel
theorem dX0_init_63 : decode cX0_init 63 = .ok (.newarray .int, 2) := by decide +kernel
theorem dX0_init_65 : decode cX0_init 65 = .ok (.putfield 27, 3) := by decide +kernel
theorem dX0_init_68 : decode cX0_init 68 = .ok (.aload_n 0, 1) := by decide +kernel
theorem dX0_init_69 : decode cX0_init 69 = .ok (.bipush 8, 2) := by decide +kernel
theorem dX0_init_71 : decode cX0_init 71 = .ok (.bipush 8, 2) := by decide +kernel
theorem dX0_init_73 : decode cX0_init 73 = .ok (.multianewarray 30 2, 4) := by decide +kernel
theorem dX0_init_77 : decode cX0_init 77 = .ok (.putfield 32, 3) := by decide +kernel
theorem dX0_init_80 : decode cX0_init 80 = .ok (.aload_n 0, 1) := by decide +kernel
theorem dX0_init_81 : decode cX0_init 81 = .ok (.bipush 8, 2) := by decide +kernel
theorem dX0_init_83 : decode cX0_init 83 = .ok (.newarray .long, 2) := by decide +kernel
theorem dX0_init_85 : decode cX0_init 85 = .ok (.putfield 35, 3) := by decide +kernel
theorem dX0_init_88 : decode cX0_init 88 = .ok (.aload_n 0, 1) := by decide +kernel
theorem dX0_init_89 : decode cX0_init 89 = .ok (.lconst 0, 1) := by decide +kernel
theorem dX0_init_90 : decode cX0_init 90 = .ok (.putfield 39, 3) := by decide +kernel
theorem dX0_init_93 : decode cX0_init 93 = .ok (.aload_n 0, 1) := by decide +kernel
theorem dX0_init_94 : decode cX0_init 94 = .ok (.lconst 1, 1) := by decide +kernel
theorem dX0_init_95 : decode cX0_init 95 = .ok (.putfield 43, 3) := by decide +kernel
theorem dX0_init_98 : decode cX0_init 98 = .ok (.return_, 1) := by decide +kernel
theorem dX0_close_0 : decode cX0_close 0 = .ok (.aload_n 0, 1) := by decide +kernel
theorem dX0_close_1 : decode cX0_close 1 = .ok (.invokevirtual 46, 3) := by decide +kernel
theorem dX0_close_4 : decode cX0_close 4 = .ok (.iconst 0, 1) := by decide +kernel
theorem dX0_close_5 : decode cX0_close 5 = .ok (.istore 4, 2) := by decide +kernel
theorem dX0_close_7 : decode cX0_close 7 = .ok (.iload 4, 2) := by decide +kernel
theorem dX0_close_9 : decode cX0_close 9 = .ok (.iload_n 2, 1) := by decide +kernel
theorem dX0_close_10 : decode cX0_close 10 = .ok (.if_icmp .ge 45, 3) := by decide +kernel
theorem dX0_close_13 : decode cX0_close 13 = .ok (.iconst 0, 1) := by decide +kernel
theorem dX0_close_14 : decode cX0_close 14 = .ok (.istore 5, 2) := by decide +kernel
theorem dX0_close_16 : decode cX0_close 16 = .ok (.iload 5, 2) := by decide +kernel
theorem dX0_close_18 : decode cX0_close 18 = .ok (.iload 4, 2) := by decide +kernel
theorem dX0_close_20 : decode cX0_close 20 = .ok (.if_icmp .ge 29, 3) := by decide +kernel
theorem dX0_close_23 : decode cX0_close 23 = .ok (.aload_n 0, 1) := by decide +kernel
theorem dX0_close_24 : decode cX0_close 24 = .ok (.iload 5, 2) := by decide +kernel
theorem dX0_close_26 : decode cX0_close 26 = .ok (.iload 4, 2) := by decide +kernel
theorem dX0_close_28 : decode cX0_close 28 = .ok (.aload_n 3, 1) := by decide +kernel
theorem dX0_close_29 : decode cX0_close 29 = .ok (.aload_n 1, 1) := by decide +kernel
theorem dX0_close_30 : decode cX0_close 30 = .ok (.iload 5, 2) := by decide +kernel
theorem dX0_close_32 : decode cX0_close 32 = .ok (.aaload, 1) := by decide +kernel
theorem dX0_close_33 : decode cX0_close 33 = .ok (.aload_n 1, 1) := by decide +kernel
theorem dX0_close_34 : decode cX0_close 34 = .ok (.iload 4, 2) := by decide +kernel
theorem dX0_close_36 : decode cX0_close 36 = .ok (.aaload, 1) := by decide +kernel
theorem dX0_close_37 : decode cX0_close 37 = .ok (.invokevirtual 49, 3) := by decide +kernel
theorem dX0_close_40 : decode cX0_close 40 = .ok (.invokevirtual 55, 3) := by decide +kernel
theorem dX0_close_43 : decode cX0_close 43 = .ok (.iinc 5 1, 3) := by decide +kernel
theorem dX0_close_46 : decode cX0_close 46 = .ok (.goto (-30), 3) := by decide +kernel
theorem dX0_close_49 : decode cX0_close 49 = .ok (.iinc 4 1, 3) := by decide +kernel
theorem dX0_close_52 : decode cX0_close 52 = .ok (.goto (-45), 3) := by decide +kernel
theorem dX0_close_55 : decode cX0_close 55 = .ok (.iconst 0, 1) := by decide +kernel
theorem dX0_close_56 : decode cX0_close 56 = .ok (.istore 4, 2) := by decide +kernel
theorem dX0_close_58 : decode cX0_close 58 = .ok (.iload 4, 2) := by decide +kernel
theorem dX0_close_60 : decode cX0_close 60 = .ok (.iload_n 2, 1) := by decide +kernel
theorem dX0_close_61 : decode cX0_close 61 = .ok (.if_icmp .ge 32, 3) := by decide +kernel
theorem dX0_close_64 : decode cX0_close 64 = .ok (.aload_n 0, 1) := by decide +kernel
theorem dX0_close_65 : decode cX0_close 65 = .ok (.getfield 23, 3) := by decide +kernel
theorem dX0_close_68 : decode cX0_close 68 = .ok (.iload 4, 2) := by decide +kernel
theorem dX0_close_70 : decode cX0_close 70 = .ok (.iaload, 1) := by decide +kernel
theorem dX0_close_71 : decode cX0_close 71 = .ok (.iload 4, 2) := by decide +kernel
theorem dX0_close_73 : decode cX0_close 73 = .ok (.if_icmp .ne 14, 3) := by decide +kernel
theorem dX0_close_76 : decode cX0_close 76 = .ok (.aload_n 0, 1) := by decide +kernel
theorem dX0_close_77 : decode cX0_close 77 = .ok (.aload_n 0, 1) := by decide +kernel
theorem dX0_close_78 : decode cX0_close 78 = .ok (.iload 4, 2) := by decide +kernel
theorem dX0_close_80 : decode cX0_close 80 = .ok (.iload_n 2, 1) := by decide +kernel
theorem dX0_close_81 : decode cX0_close 81 = .ok (.invokevirtual 59, 3) := by decide +kernel
theorem dX0_close_84 : decode cX0_close 84 = .ok (.invokevirtual 63, 3) := by decide +kernel
theorem dX0_close_87 : decode cX0_close 87 = .ok (.iinc 4 1, 3) := by decide +kernel
theorem dX0_close_90 : decode cX0_close 90 = .ok (.goto (-32), 3) := by decide +kernel
theorem dX0_close_93 : decode cX0_close 93 = .ok (.return_, 1) := by decide +kernel
theorem dX0_squaresLeft_0 : decode cX0_squaresLeft 0 = .ok (.aload_n 0, 1) := by decide +kernel
theorem dX0_squaresLeft_1 : decode cX0_squaresLeft 1 = .ok (.getfield 43, 3) := by decide +kernel
theorem dX0_squaresLeft_4 : decode cX0_squaresLeft 4 = .ok (.lconst 0, 1) := by decide +kernel
theorem dX0_squaresLeft_5 : decode cX0_squaresLeft 5 = .ok (.lcmp, 1) := by decide +kernel
theorem dX0_squaresLeft_6 : decode cX0_squaresLeft 6 = .ok (.ifCond .gt 5, 3) := by decide +kernel
theorem dX0_squaresLeft_9 : decode cX0_squaresLeft 9 = .ok (.lconst 0, 1) := by decide +kernel
theorem dX0_squaresLeft_10 : decode cX0_squaresLeft 10 = .ok (.lreturn, 1) := by decide +kernel
theorem dX0_squaresLeft_11 : decode cX0_squaresLeft 11 = .ok (.aload_n 0, 1) := by decide +kernel
theorem dX0_squaresLeft_12 : decode cX0_squaresLeft 12 = .ok (.getfield 67, 3) := by decide +kernel
theorem dX0_squaresLeft_15 : decode cX0_squaresLeft 15 = .ok (.aload_n 0, 1) := by decide +kernel
theorem dX0_squaresLeft_16 : decode cX0_squaresLeft 16 = .ok (.getfield 43, 3) := by decide +kernel
theorem dX0_squaresLeft_19 : decode cX0_squaresLeft 19 = .ok (.lmul, 1) := by decide +kernel
theorem dX0_squaresLeft_20 : decode cX0_squaresLeft 20 = .ok (.aload_n 0, 1) := by decide +kernel
theorem dX0_squaresLeft_21 : decode cX0_squaresLeft 21 = .ok (.getfield 39, 3) := by decide +kernel
theorem dX0_squaresLeft_24 : decode cX0_squaresLeft 24 = .ok (.lsub, 1) := by decide +kernel
theorem dX0_squaresLeft_25 : decode cX0_squaresLeft 25 = .ok (.aload_n 0, 1) := by decide +kernel
theorem dX0_squaresLeft_26 : decode cX0_squaresLeft 26 = .ok (.getfield 43, 3) := by decide +kernel
theorem dX0_squaresLeft_29 : decode cX0_squaresLeft 29 = .ok (.invokestatic 70, 3) := by decide +kernel
theorem dX0_squaresLeft_32 : decode cX0_squaresLeft 32 = .ok (.lreturn, 1) := by decide +kernel
theorem dX0_startAnew_0 : decode cX0_startAnew 0 = .ok (.aload_n 0, 1) := by decide +kernel
theorem dX0_startAnew_1 : decode cX0_startAnew 1 = .ok (.iconst 0, 1) := by decide +kernel
theorem dX0_startAnew_2 : decode cX0_startAnew 2 = .ok (.putfield 76, 3) := by decide +kernel
theorem dX0_startAnew_5 : decode cX0_startAnew 5 = .ok (.aload_n 0, 1) := by decide +kernel
theorem dX0_startAnew_6 : decode cX0_startAnew 6 = .ok (.iconst 0, 1) := by decide +kernel
theorem dX0_startAnew_7 : decode cX0_startAnew 7 = .ok (.putfield 80, 3) := by decide +kernel
theorem dX0_startAnew_10 : decode cX0_startAnew 10 = .ok (.aload_n 0, 1) := by decide +kernel
theorem dX0_startAnew_11 : decode cX0_startAnew 11 = .ok (.iconst 0, 1) := by decide +kernel
theorem dX0_startAnew_12 : decode cX0_startAnew 12 = .ok (.putfield 83, 3) := by decide +kernel
theorem dX0_startAnew_15 : decode cX0_startAnew 15 = .ok (.aload_n 0, 1) := by decide +kernel
theorem dX0_startAnew_16 : decode cX0_startAnew 16 = .ok (.lconst 0, 1) := by decide +kernel
theorem dX0_startAnew_17 : decode cX0_startAnew 17 = .ok (.putfield 67, 3) := by decide +kernel
theorem dX0_startAnew_20 : decode cX0_startAnew 20 = .ok (.aload_n 0, 1) := by decide +kernel
theorem dX0_startAnew_21 : decode cX0_startAnew 21 = .ok (.lconst 0, 1) := by decide +kernel
theorem dX0_startAnew_22 : decode cX0_startAnew 22 = .ok (.putfield 39, 3) := by decide +kernel
theorem dX0_startAnew_25 : decode cX0_startAnew 25 = .ok (.aload_n 0, 1) := by decide +kernel
theorem dX0_startAnew_26 : decode cX0_startAnew 26 = .ok (.lconst 1, 1) := by decide +kernel
theorem dX0_startAnew_27 : decode cX0_startAnew 27 = .ok (.putfield 43, 3) := by decide +kernel
theorem dX0_startAnew_30 : decode cX0_startAnew 30 = .ok (.iconst 0, 1) := by decide +kernel
theorem dX0_startAnew_31 : decode cX0_startAnew 31 = .ok (.istore_n 1, 1) := by decide +kernel
theorem dX0_startAnew_32 : decode cX0_startAnew 32 = .ok (.iload_n 1, 1) := by decide +kernel
theorem dX0_startAnew_33 : decode cX0_startAnew 33 = .ok (.bipush 8, 2) := by decide +kernel
theorem dX0_startAnew_35 : decode cX0_startAnew 35 = .ok (.if_icmp .ge 27, 3) := by decide +kernel
theorem dX0_startAnew_38 : decode cX0_startAnew 38 = .ok (.aload_n 0, 1) := by decide +kernel
theorem dX0_startAnew_39 : decode cX0_startAnew 39 = .ok (.getfield 23, 3) := by decide +kernel
theorem dX0_startAnew_42 : decode cX0_startAnew 42 = .ok (.iload_n 1, 1) := by decide +kernel
theorem dX0_startAnew_43 : decode cX0_startAnew 43 = .ok (.iload_n 1, 1) := by decide +kernel
theorem dX0_startAnew_44 : decode cX0_startAnew 44 = .ok (.iastore, 1) := by decide +kernel
theorem dX0_startAnew_45 : decode cX0_startAnew 45 = .ok (.aload_n 0, 1) := by decide +kernel
theorem dX0_startAnew_46 : decode cX0_startAnew 46 = .ok (.getfield 11, 3) := by decide +kernel
theorem dX0_startAnew_49 : decode cX0_startAnew 49 = .ok (.iload_n 1, 1) := by decide +kernel
theorem dX0_startAnew_50 : decode cX0_startAnew 50 = .ok (.aaload, 1) := by decide +kernel
theorem dX0_startAnew_51 : decode cX0_startAnew 51 = .ok (.lconst 0, 1) := by decide +kernel
theorem dX0_startAnew_52 : decode cX0_startAnew 52 = .ok (.lconst 1, 1) := by decide +kernel
theorem dX0_startAnew_53 : decode cX0_startAnew 53 = .ok (.invokevirtual 86, 3) := by decide +kernel
theorem dX0_startAnew_56 : decode cX0_startAnew 56 = .ok (.iinc 1 1, 3) := by decide +kernel
theorem dX0_startAnew_59 : decode cX0_startAnew 59 = .ok (.goto (-27), 3) := by decide +kernel
theorem dX0_startAnew_62 : decode cX0_startAnew 62 = .ok (.return_, 1) := by decide +kernel
theorem dX0_takeDifference_0 : decode cX0_takeDifference 0 = .ok (.aload_n 0, 1) := by decide +kernel
theorem dX0_takeDifference_1 : decode cX0_takeDifference 1 = .ok (.getfield 20, 3) := by decide +kernel
theorem dX0_takeDifference_4 : decode cX0_takeDifference 4 = .ok (.iload_n 1, 1) := by decide +kernel
theorem dX0_takeDifference_5 : decode cX0_takeDifference 5 = .ok (.aaload, 1) := by decide +kernel
theorem dX0_takeDifference_6 : decode cX0_takeDifference 6 = .ok (.iload_n 2, 1) := by decide +kernel
theorem dX0_takeDifference_7 : decode cX0_takeDifference 7 = .ok (.iload_n 3, 1) := by decide +kernel
theorem dX0_takeDifference_8 : decode cX0_takeDifference 8 = .ok (.iastore, 1) := by decide +kernel
theorem dX0_takeDifference_9 : decode cX0_takeDifference 9 = .ok (.iload_n 3, 1) := by decide +kernel
theorem dX0_takeDifference_10 : decode cX0_takeDifference 10 = .ok (.ldc 90, 2) := by decide +kernel
theorem dX0_takeDifference_12 : decode cX0_takeDifference 12 = .ok (.if_icmp .eq 43, 3) := by decide +kernel
theorem dX0_takeDifference_15 : decode cX0_takeDifference 15 = .ok (.aload_n 0, 1) := by decide +kernel
theorem dX0_takeDifference_16 : decode cX0_takeDifference 16 = .ok (.dup, 1) := by decide +kernel
theorem dX0_takeDifference_17 : decode cX0_takeDifference 17 = .ok (.getfield 76, 3) := by decide +kernel
theorem dX0_takeDifference_20 : decode cX0_takeDifference 20 = .ok (.iconst 1, 1) := by decide +kernel
theorem dX0_takeDifference_21 : decode cX0_takeDifference 21 = .ok (.iadd, 1) := by decide +kernel
theorem dX0_takeDifference_22 : decode cX0_takeDifference 22 = .ok (.putfield 76, 3) := by decide +kernel
theorem dX0_takeDifference_25 : decode cX0_takeDifference 25 = .ok (.aload_n 0, 1) := by decide +kernel
theorem dX0_takeDifference_26 : decode cX0_takeDifference 26 = .ok (.dup, 1) := by decide +kernel
theorem dX0_takeDifference_27 : decode cX0_takeDifference 27 = .ok (.getfield 67, 3) := by decide +kernel
theorem dX0_takeDifference_30 : decode cX0_takeDifference 30 = .ok (.iload_n 3, 1) := by decide +kernel
theorem dX0_takeDifference_31 : decode cX0_takeDifference 31 = .ok (.i2l, 1) := by decide +kernel
theorem dX0_takeDifference_32 : decode cX0_takeDifference 32 = .ok (.iload_n 3, 1) := by decide +kernel
theorem dX0_takeDifference_33 : decode cX0_takeDifference 33 = .ok (.i2l, 1) := by decide +kernel
theorem dX0_takeDifference_34 : decode cX0_takeDifference 34 = .ok (.lmul, 1) := by decide +kernel
theorem dX0_takeDifference_35 : decode cX0_takeDifference 35 = .ok (.ladd, 1) := by decide +kernel
theorem dX0_takeDifference_36 : decode cX0_takeDifference 36 = .ok (.putfield 67, 3) := by decide +kernel
theorem dX0_takeDifference_39 : decode cX0_takeDifference 39 = .ok (.aload_n 0, 1) := by decide +kernel
theorem dX0_takeDifference_40 : decode cX0_takeDifference 40 = .ok (.aload_n 0, 1) := by decide +kernel
theorem dX0_takeDifference_41 : decode cX0_takeDifference 41 = .ok (.getfield 23, 3) := by decide +kernel
theorem dX0_takeDifference_44 : decode cX0_takeDifference 44 = .ok (.iload_n 1, 1) := by decide +kernel
theorem dX0_takeDifference_45 : decode cX0_takeDifference 45 = .ok (.iaload, 1) := by decide +kernel
theorem dX0_takeDifference_46 : decode cX0_takeDifference 46 = .ok (.aload_n 0, 1) := by decide +kernel
theorem dX0_takeDifference_47 : decode cX0_takeDifference 47 = .ok (.getfield 23, 3) := by decide +kernel
theorem dX0_takeDifference_50 : decode cX0_takeDifference 50 = .ok (.iload_n 2, 1) := by decide +kernel
theorem dX0_takeDifference_51 : decode cX0_takeDifference 51 = .ok (.iaload, 1) := by decide +kernel
theorem dX0_takeDifference_52 : decode cX0_takeDifference 52 = .ok (.invokevirtual 91, 3) := by decide +kernel
theorem dX0_takeDifference_55 : decode cX0_takeDifference 55 = .ok (.return_, 1) := by decide +kernel
theorem dX0_joinNets_0 : decode cX0_joinNets 0 = .ok (.iload_n 1, 1) := by decide +kernel
theorem dX0_joinNets_1 : decode cX0_joinNets 1 = .ok (.iload_n 2, 1) := by decide +kernel
theorem dX0_joinNets_2 : decode cX0_joinNets 2 = .ok (.invokestatic 95, 3) := by decide +kernel
theorem dX0_joinNets_5 : decode cX0_joinNets 5 = .ok (.istore_n 3, 1) := by decide +kernel
theorem dX0_joinNets_6 : decode cX0_joinNets 6 = .ok (.iload_n 1, 1) := by decide +kernel
theorem dX0_joinNets_7 : decode cX0_joinNets 7 = .ok (.iload_n 2, 1) := by decide +kernel
theorem dX0_joinNets_8 : decode cX0_joinNets 8 = .ok (.invokestatic 98, 3) := by decide +kernel
theorem dX0_joinNets_11 : decode cX0_joinNets 11 = .ok (.istore 4, 2) := by decide +kernel
theorem dX0_joinNets_13 : decode cX0_joinNets 13 = .ok (.iconst 0, 1) := by decide +kernel
theorem dX0_joinNets_14 : decode cX0_joinNets 14 = .ok (.istore 5, 2) := by decide +kernel
theorem dX0_joinNets_16 : decode cX0_joinNets 16 = .ok (.iload 5, 2) := by decide +kernel
theorem dX0_joinNets_18 : decode cX0_joinNets 18 = .ok (.bipush 8, 2) := by decide +kernel
theorem dX0_joinNets_20 : decode cX0_joinNets 20 = .ok (.if_icmp .ge 29, 3) := by decide +kernel
theorem dX0_joinNets_23 : decode cX0_joinNets 23 = .ok (.aload_n 0, 1) := by decide +kernel
theorem dX0_joinNets_24 : decode cX0_joinNets 24 = .ok (.getfield 23, 3) := by decide +kernel
theorem dX0_joinNets_27 : decode cX0_joinNets 27 = .ok (.iload 5, 2) := by decide +kernel
theorem dX0_joinNets_29 : decode cX0_joinNets 29 = .ok (.iaload, 1) := by decide +kernel
theorem dX0_joinNets_30 : decode cX0_joinNets 30 = .ok (.iload 4, 2) := by decide +kernel
theorem dX0_joinNets_32 : decode cX0_joinNets 32 = .ok (.if_icmp .ne 11, 3) := by decide +kernel
theorem dX0_joinNets_35 : decode cX0_joinNets 35 = .ok (.aload_n 0, 1) := by decide +kernel
theorem dX0_joinNets_36 : decode cX0_joinNets 36 = .ok (.getfield 23, 3) := by decide +kernel
theorem dX0_joinNets_39 : decode cX0_joinNets 39 = .ok (.iload 5, 2) := by decide +kernel
theorem dX0_joinNets_41 : decode cX0_joinNets 41 = .ok (.iload_n 3, 1) := by decide +kernel
theorem dX0_joinNets_42 : decode cX0_joinNets 42 = .ok (.iastore, 1) := by decide +kernel
theorem dX0_joinNets_43 : decode cX0_joinNets 43 = .ok (.iinc 5 1, 3) := by decide +kernel
theorem dX0_joinNets_46 : decode cX0_joinNets 46 = .ok (.goto (-30), 3) := by decide +kernel
theorem dX0_joinNets_49 : decode cX0_joinNets 49 = .ok (.return_, 1) := by decide +kernel
theorem dX0_gatherMembers_0 : decode cX0_gatherMembers 0 = .ok (.iconst 0, 1) := by decide +kernel
theorem dX0_gatherMembers_1 : decode cX0_gatherMembers 1 = .ok (.istore_n 3, 1) := by decide +kernel
theorem dX0_gatherMembers_2 : decode cX0_gatherMembers 2 = .ok (.iconst 0, 1) := by decide +kernel
theorem dX0_gatherMembers_3 : decode cX0_gatherMembers 3 = .ok (.istore 4, 2) := by decide +kernel
theorem dX0_gatherMembers_5 : decode cX0_gatherMembers 5 = .ok (.iload 4, 2) := by decide +kernel
theorem dX0_gatherMembers_7 : decode cX0_gatherMembers 7 = .ok (.iload_n 2, 1) := by decide +kernel
theorem dX0_gatherMembers_8 : decode cX0_gatherMembers 8 = .ok (.if_icmp .ge 31, 3) := by decide +kernel
theorem dX0_gatherMembers_11 : decode cX0_gatherMembers 11 = .ok (.aload_n 0, 1) := by decide +kernel
theorem dX0_gatherMembers_12 : decode cX0_gatherMembers 12 = .ok (.getfield 23, 3) := by decide +kernel
theorem dX0_gatherMembers_15 : decode cX0_gatherMembers 15 = .ok (.iload 4, 2) := by decide +kernel
theorem dX0_gatherMembers_17 : decode cX0_gatherMembers 17 = .ok (.iaload, 1) := by decide +kernel
theorem dX0_gatherMembers_18 : decode cX0_gatherMembers 18 = .ok (.iload_n 1, 1) := by decide +kernel
theorem dX0_gatherMembers_19 : decode cX0_gatherMembers 19 = .ok (.if_icmp .ne 14, 3) := by decide +kernel
theorem dX0_gatherMembers_22 : decode cX0_gatherMembers 22 = .ok (.aload_n 0, 1) := by decide +kernel
theorem dX0_gatherMembers_23 : decode cX0_gatherMembers 23 = .ok (.getfield 27, 3) := by decide +kernel
theorem dX0_gatherMembers_26 : decode cX0_gatherMembers 26 = .ok (.iload_n 3, 1) := by decide +kernel
theorem dX0_gatherMembers_27 : decode cX0_gatherMembers 27 = .ok (.iload 4, 2) := by decide +kernel
theorem dX0_gatherMembers_29 : decode cX0_gatherMembers 29 = .ok (.iastore, 1) := by decide +kernel
theorem dX0_gatherMembers_30 : decode cX0_gatherMembers 30 = .ok (.iinc 3 1, 3) := by decide +kernel
theorem dX0_gatherMembers_33 : decode cX0_gatherMembers 33 = .ok (.iinc 4 1, 3) := by decide +kernel
theorem dX0_gatherMembers_36 : decode cX0_gatherMembers 36 = .ok (.goto (-31), 3) := by decide +kernel
theorem dX0_gatherMembers_39 : decode cX0_gatherMembers 39 = .ok (.iload_n 3, 1) := by decide +kernel
theorem dX0_gatherMembers_40 : decode cX0_gatherMembers 40 = .ok (.ireturn, 1) := by decide +kernel
theorem dX0_settleNet_0 : decode cX0_settleNet 0 = .ok (.iload_n 1, 1) := by decide +kernel
theorem dX0_settleNet_1 : decode cX0_settleNet 1 = .ok (.iconst 2, 1) := by decide +kernel
theorem dX0_settleNet_2 : decode cX0_settleNet 2 = .ok (.if_icmp .ge 14, 3) := by decide +kernel
theorem dX0_settleNet_5 : decode cX0_settleNet 5 = .ok (.aload_n 0, 1) := by decide +kernel
theorem dX0_settleNet_6 : decode cX0_settleNet 6 = .ok (.dup, 1) := by decide +kernel
theorem dX0_settleNet_7 : decode cX0_settleNet 7 = .ok (.getfield 83, 3) := by decide +kernel
theorem dX0_settleNet_10 : decode cX0_settleNet 10 = .ok (.iload_n 1, 1) := by decide +kernel
theorem dX0_settleNet_11 : decode cX0_settleNet 11 = .ok (.iadd, 1) := by decide +kernel
theorem dX0_settleNet_12 : decode cX0_settleNet 12 = .ok (.putfield 83, 3) := by decide +kernel
theorem dX0_settleNet_15 : decode cX0_settleNet 15 = .ok (.return_, 1) := by decide +kernel
theorem dX0_settleNet_16 : decode cX0_settleNet 16 = .ok (.aload_n 0, 1) := by decide +kernel
theorem dX0_settleNet_17 : decode cX0_settleNet 17 = .ok (.dup, 1) := by decide +kernel
theorem dX0_settleNet_18 : decode cX0_settleNet 18 = .ok (.getfield 80, 3) := by decide +kernel
theorem dX0_settleNet_21 : decode cX0_settleNet 21 = .ok (.iconst 1, 1) := by decide +kernel
theorem dX0_settleNet_22 : decode cX0_settleNet 22 = .ok (.iadd, 1) := by decide +kernel
theorem dX0_settleNet_23 : decode cX0_settleNet 23 = .ok (.putfield 80, 3) := by decide +kernel
theorem dX0_settleNet_26 : decode cX0_settleNet 26 = .ok (.aload_n 0, 1) := by decide +kernel
theorem dX0_settleNet_27 : decode cX0_settleNet 27 = .ok (.iload_n 1, 1) := by decide +kernel
theorem dX0_settleNet_28 : decode cX0_settleNet 28 = .ok (.invokevirtual 101, 3) := by decide +kernel
theorem dX0_settleNet_31 : decode cX0_settleNet 31 = .ok (.aload_n 0, 1) := by decide +kernel
theorem dX0_settleNet_32 : decode cX0_settleNet 32 = .ok (.iload_n 1, 1) := by decide +kernel
theorem dX0_settleNet_33 : decode cX0_settleNet 33 = .ok (.iconst 1, 1) := by decide +kernel
theorem dX0_settleNet_34 : decode cX0_settleNet 34 = .ok (.isub, 1) := by decide +kernel
theorem dX0_settleNet_35 : decode cX0_settleNet 35 = .ok (.invokevirtual 104, 3) := by decide +kernel
theorem dX0_settleNet_38 : decode cX0_settleNet 38 = .ok (.lstore_n 2, 1) := by decide +kernel
theorem dX0_settleNet_39 : decode cX0_settleNet 39 = .ok (.lload_n 2, 1) := by decide +kernel
theorem dX0_settleNet_40 : decode cX0_settleNet 40 = .ok (.lconst 0, 1) := by decide +kernel
theorem dX0_settleNet_41 : decode cX0_settleNet 41 = .ok (.lcmp, 1) := by decide +kernel
theorem dX0_settleNet_42 : decode cX0_settleNet 42 = .ok (.ifCond .ne 4, 3) := by decide +kernel
theorem dX0_settleNet_45 : decode cX0_settleNet 45 = .ok (.return_, 1) := by decide +kernel
theorem dX0_settleNet_46 : decode cX0_settleNet 46 = .ok (.iconst 0, 1) := by decide +kernel
theorem dX0_settleNet_47 : decode cX0_settleNet 47 = .ok (.istore 4, 2) := by decide +kernel
theorem dX0_settleNet_49 : decode cX0_settleNet 49 = .ok (.iload 4, 2) := by decide +kernel
theorem dX0_settleNet_51 : decode cX0_settleNet 51 = .ok (.iload_n 1, 1) := by decide +kernel
theorem dX0_settleNet_52 : decode cX0_settleNet 52 = .ok (.iconst 1, 1) := by decide +kernel
theorem dX0_settleNet_53 : decode cX0_settleNet 53 = .ok (.isub, 1) := by decide +kernel
theorem dX0_settleNet_54 : decode cX0_settleNet 54 = .ok (.if_icmp .ge 27, 3) := by decide +kernel
theorem dX0_settleNet_57 : decode cX0_settleNet 57 = .ok (.aload_n 0, 1) := by decide +kernel
theorem dX0_settleNet_58 : decode cX0_settleNet 58 = .ok (.getfield 35, 3) := by decide +kernel
theorem dX0_settleNet_61 : decode cX0_settleNet 61 = .ok (.iload 4, 2) := by decide +kernel
theorem dX0_settleNet_63 : decode cX0_settleNet 63 = .ok (.aload_n 0, 1) := by decide +kernel
theorem dX0_settleNet_64 : decode cX0_settleNet 64 = .ok (.getfield 32, 3) := by decide +kernel
theorem dX0_settleNet_67 : decode cX0_settleNet 67 = .ok (.iload 4, 2) := by decide +kernel
theorem dX0_settleNet_69 : decode cX0_settleNet 69 = .ok (.aaload, 1) := by decide +kernel
theorem dX0_settleNet_70 : decode cX0_settleNet 70 = .ok (.iload_n 1, 1) := by decide +kernel
theorem dX0_settleNet_71 : decode cX0_settleNet 71 = .ok (.iconst 1, 1) := by decide +kernel
theorem dX0_settleNet_72 : decode cX0_settleNet 72 = .ok (.isub, 1) := by decide +kernel
theorem dX0_settleNet_73 : decode cX0_settleNet 73 = .ok (.laload, 1) := by decide +kernel
theorem dX0_settleNet_74 : decode cX0_settleNet 74 = .ok (.lastore, 1) := by decide +kernel
theorem dX0_settleNet_75 : decode cX0_settleNet 75 = .ok (.iinc 4 1, 3) := by decide +kernel
theorem dX0_settleNet_78 : decode cX0_settleNet 78 = .ok (.goto (-29), 3) := by decide +kernel
theorem dX0_settleNet_81 : decode cX0_settleNet 81 = .ok (.aload_n 0, 1) := by decide +kernel
theorem dX0_settleNet_82 : decode cX0_settleNet 82 = .ok (.getfield 35, 3) := by decide +kernel
theorem dX0_settleNet_85 : decode cX0_settleNet 85 = .ok (.iload_n 1, 1) := by decide +kernel
theorem dX0_settleNet_86 : decode cX0_settleNet 86 = .ok (.iconst 1, 1) := by decide +kernel
theorem dX0_settleNet_87 : decode cX0_settleNet 87 = .ok (.isub, 1) := by decide +kernel
theorem dX0_settleNet_88 : decode cX0_settleNet 88 = .ok (.lconst 0, 1) := by decide +kernel
theorem dX0_settleNet_89 : decode cX0_settleNet 89 = .ok (.lastore, 1) := by decide +kernel
theorem dX0_settleNet_90 : decode cX0_settleNet 90 = .ok (.aload_n 0, 1) := by decide +kernel
theorem dX0_settleNet_91 : decode cX0_settleNet 91 = .ok (.iload_n 1, 1) := by decide +kernel
theorem dX0_settleNet_92 : decode cX0_settleNet 92 = .ok (.lload_n 2, 1) := by decide +kernel
theorem dX0_settleNet_93 : decode cX0_settleNet 93 = .ok (.invokevirtual 108, 3) := by decide +kernel
theorem dX0_settleNet_96 : decode cX0_settleNet 96 = .ok (.aload_n 0, 1) := by decide +kernel
theorem dX0_settleNet_97 : decode cX0_settleNet 97 = .ok (.iload_n 1, 1) := by decide +kernel
theorem dX0_settleNet_98 : decode cX0_settleNet 98 = .ok (.lload_n 2, 1) := by decide +kernel
theorem dX0_settleNet_99 : decode cX0_settleNet 99 = .ok (.invokevirtual 112, 3) := by decide +kernel
theorem dX0_settleNet_102 : decode cX0_settleNet 102 = .ok (.return_, 1) := by decide +kernel
theorem dX0_fillRows_0 : decode cX0_fillRows 0 = .ok (.iconst 0, 1) := by decide +kernel
theorem dX0_fillRows_1 : decode cX0_fillRows 1 = .ok (.istore_n 2, 1) := by decide +kernel
theorem dX0_fillRows_2 : decode cX0_fillRows 2 = .ok (.iload_n 2, 1) := by decide +kernel
theorem dX0_fillRows_3 : decode cX0_fillRows 3 = .ok (.iload_n 1, 1) := by decide +kernel
theorem dX0_fillRows_4 : decode cX0_fillRows 4 = .ok (.if_icmp .ge 31, 3) := by decide +kernel
theorem dX0_fillRows_7 : decode cX0_fillRows 7 = .ok (.iconst 0, 1) := by decide +kernel
theorem dX0_fillRows_8 : decode cX0_fillRows 8 = .ok (.istore_n 3, 1) := by decide +kernel
theorem dX0_fillRows_9 : decode cX0_fillRows 9 = .ok (.iload_n 3, 1) := by decide +kernel
theorem dX0_fillRows_10 : decode cX0_fillRows 10 = .ok (.iload_n 1, 1) := by decide +kernel
theorem dX0_fillRows_11 : decode cX0_fillRows 11 = .ok (.if_icmp .ge 18, 3) := by decide +kernel
theorem dX0_fillRows_14 : decode cX0_fillRows 14 = .ok (.aload_n 0, 1) := by decide +kernel
theorem dX0_fillRows_15 : decode cX0_fillRows 15 = .ok (.getfield 32, 3) := by decide +kernel
theorem dX0_fillRows_18 : decode cX0_fillRows 18 = .ok (.iload_n 2, 1) := by decide +kernel
theorem dX0_fillRows_19 : decode cX0_fillRows 19 = .ok (.aaload, 1) := by decide +kernel
theorem dX0_fillRows_20 : decode cX0_fillRows 20 = .ok (.iload_n 3, 1) := by decide +kernel
theorem dX0_fillRows_21 : decode cX0_fillRows 21 = .ok (.lconst 0, 1) := by decide +kernel
theorem dX0_fillRows_22 : decode cX0_fillRows 22 = .ok (.lastore, 1) := by decide +kernel
theorem dX0_fillRows_23 : decode cX0_fillRows 23 = .ok (.iinc 3 1, 3) := by decide +kernel
theorem dX0_fillRows_26 : decode cX0_fillRows 26 = .ok (.goto (-17), 3) := by decide +kernel
theorem dX0_fillRows_29 : decode cX0_fillRows 29 = .ok (.iinc 2 1, 3) := by decide +kernel
theorem dX0_fillRows_32 : decode cX0_fillRows 32 = .ok (.goto (-30), 3) := by decide +kernel
theorem dX0_fillRows_35 : decode cX0_fillRows 35 = .ok (.iconst 0, 1) := by decide +kernel
theorem dX0_fillRows_36 : decode cX0_fillRows 36 = .ok (.istore_n 2, 1) := by decide +kernel
theorem dX0_fillRows_37 : decode cX0_fillRows 37 = .ok (.iload_n 2, 1) := by decide +kernel
theorem dX0_fillRows_38 : decode cX0_fillRows 38 = .ok (.iload_n 1, 1) := by decide +kernel
theorem dX0_fillRows_39 : decode cX0_fillRows 39 = .ok (.if_icmp .ge 60, 3) := by decide +kernel
theorem dX0_fillRows_42 : decode cX0_fillRows 42 = .ok (.iconst 0, 1) := by decide +kernel
theorem dX0_fillRows_43 : decode cX0_fillRows 43 = .ok (.istore_n 3, 1) := by decide +kernel
theorem dX0_fillRows_44 : decode cX0_fillRows 44 = .ok (.iload_n 3, 1) := by decide +kernel
theorem dX0_fillRows_45 : decode cX0_fillRows 45 = .ok (.iload_n 2, 1) := by decide +kernel
theorem dX0_fillRows_46 : decode cX0_fillRows 46 = .ok (.if_icmp .ge 47, 3) := by decide +kernel
theorem dX0_fillRows_49 : decode cX0_fillRows 49 = .ok (.aload_n 0, 1) := by decide +kernel
theorem dX0_fillRows_50 : decode cX0_fillRows 50 = .ok (.getfield 20, 3) := by decide +kernel
theorem dX0_fillRows_53 : decode cX0_fillRows 53 = .ok (.aload_n 0, 1) := by decide +kernel
theorem dX0_fillRows_54 : decode cX0_fillRows 54 = .ok (.getfield 27, 3) := by decide +kernel
theorem dX0_fillRows_57 : decode cX0_fillRows 57 = .ok (.iload_n 3, 1) := by decide +kernel
theorem dX0_fillRows_58 : decode cX0_fillRows 58 = .ok (.iaload, 1) := by decide +kernel
theorem dX0_fillRows_59 : decode cX0_fillRows 59 = .ok (.aaload, 1) := by decide +kernel
theorem dX0_fillRows_60 : decode cX0_fillRows 60 = .ok (.aload_n 0, 1) := by decide +kernel
theorem dX0_fillRows_61 : decode cX0_fillRows 61 = .ok (.getfield 27, 3) := by decide +kernel
theorem dX0_fillRows_64 : decode cX0_fillRows 64 = .ok (.iload_n 2, 1) := by decide +kernel
theorem dX0_fillRows_65 : decode cX0_fillRows 65 = .ok (.iaload, 1) := by decide +kernel
theorem dX0_fillRows_66 : decode cX0_fillRows 66 = .ok (.iaload, 1) := by decide +kernel
theorem dX0_fillRows_67 : decode cX0_fillRows 67 = .ok (.istore 4, 2) := by decide +kernel
theorem dX0_fillRows_69 : decode cX0_fillRows 69 = .ok (.iload 4, 2) := by decide +kernel
theorem dX0_fillRows_71 : decode cX0_fillRows 71 = .ok (.ldc 90, 2) := by decide +kernel
theorem dX0_fillRows_73 : decode cX0_fillRows 73 = .ok (.if_icmp .eq 14, 3) := by decide +kernel
theorem dX0_fillRows_76 : decode cX0_fillRows 76 = .ok (.aload_n 0, 1) := by decide +kernel
theorem dX0_fillRows_77 : decode cX0_fillRows 77 = .ok (.iload_n 3, 1) := by decide +kernel
theorem dX0_fillRows_78 : decode cX0_fillRows 78 = .ok (.iload_n 2, 1) := by decide +kernel
theorem dX0_fillRows_79 : decode cX0_fillRows 79 = .ok (.iload 4, 2) := by decide +kernel
theorem dX0_fillRows_81 : decode cX0_fillRows 81 = .ok (.iload_n 1, 1) := by decide +kernel
theorem dX0_fillRows_82 : decode cX0_fillRows 82 = .ok (.iconst 1, 1) := by decide +kernel
theorem dX0_fillRows_83 : decode cX0_fillRows 83 = .ok (.isub, 1) := by decide +kernel
theorem dX0_fillRows_84 : decode cX0_fillRows 84 = .ok (.invokevirtual 115, 3) := by decide +kernel
theorem dX0_fillRows_87 : decode cX0_fillRows 87 = .ok (.iinc 3 1, 3) := by decide +kernel
theorem dX0_fillRows_90 : decode cX0_fillRows 90 = .ok (.goto (-46), 3) := by decide +kernel
theorem dX0_fillRows_93 : decode cX0_fillRows 93 = .ok (.iinc 2 1, 3) := by decide +kernel
theorem dX0_fillRows_96 : decode cX0_fillRows 96 = .ok (.goto (-59), 3) := by decide +kernel
theorem dX0_fillRows_99 : decode cX0_fillRows 99 = .ok (.return_, 1) := by decide +kernel
theorem dX0_addToRows_0 : decode cX0_addToRows 0 = .ok (.aload_n 0, 1) := by decide +kernel
theorem dX0_addToRows_1 : decode cX0_addToRows 1 = .ok (.getfield 32, 3) := by decide +kernel
theorem dX0_addToRows_4 : decode cX0_addToRows 4 = .ok (.iload_n 1, 1) := by decide +kernel
theorem dX0_addToRows_5 : decode cX0_addToRows 5 = .ok (.aaload, 1) := by decide +kernel
theorem dX0_addToRows_6 : decode cX0_addToRows 6 = .ok (.iload_n 1, 1) := by decide +kernel
theorem dX0_addToRows_7 : decode cX0_addToRows 7 = .ok (.dup2, 1) := by decide +kernel
theorem dX0_addToRows_8 : decode cX0_addToRows 8 = .ok (.laload, 1) := by decide +kernel
theorem dX0_addToRows_9 : decode cX0_addToRows 9 = .ok (.lconst 1, 1) := by decide +kernel
theorem dX0_addToRows_10 : decode cX0_addToRows 10 = .ok (.ladd, 1) := by decide +kernel
theorem dX0_addToRows_11 : decode cX0_addToRows 11 = .ok (.lastore, 1) := by decide +kernel
theorem dX0_addToRows_12 : decode cX0_addToRows 12 = .ok (.aload_n 0, 1) := by decide +kernel
theorem dX0_addToRows_13 : decode cX0_addToRows 13 = .ok (.getfield 32, 3) := by decide +kernel
theorem dX0_addToRows_16 : decode cX0_addToRows 16 = .ok (.iload_n 1, 1) := by decide +kernel
theorem dX0_addToRows_17 : decode cX0_addToRows 17 = .ok (.aaload, 1) := by decide +kernel
theorem dX0_addToRows_18 : decode cX0_addToRows 18 = .ok (.iload 4, 2) := by decide +kernel
theorem dX0_addToRows_20 : decode cX0_addToRows 20 = .ok (.dup2, 1) := by decide +kernel
theorem dX0_addToRows_21 : decode cX0_addToRows 21 = .ok (.laload, 1) := by decide +kernel
theorem dX0_addToRows_22 : decode cX0_addToRows 22 = .ok (.iload_n 3, 1) := by decide +kernel
theorem dX0_addToRows_23 : decode cX0_addToRows 23 = .ok (.i2l, 1) := by decide +kernel
theorem dX0_addToRows_24 : decode cX0_addToRows 24 = .ok (.ladd, 1) := by decide +kernel
theorem dX0_addToRows_25 : decode cX0_addToRows 25 = .ok (.lastore, 1) := by decide +kernel
theorem dX0_addToRows_26 : decode cX0_addToRows 26 = .ok (.iload_n 2, 1) := by decide +kernel
theorem dX0_addToRows_27 : decode cX0_addToRows 27 = .ok (.iload 4, 2) := by decide +kernel
theorem dX0_addToRows_29 : decode cX0_addToRows 29 = .ok (.if_icmp .ge 53, 3) := by decide +kernel
theorem dX0_addToRows_32 : decode cX0_addToRows 32 = .ok (.aload_n 0, 1) := by decide +kernel
theorem dX0_addToRows_33 : decode cX0_addToRows 33 = .ok (.getfield 32, 3) := by decide +kernel
theorem dX0_addToRows_36 : decode cX0_addToRows 36 = .ok (.iload_n 1, 1) := by decide +kernel
theorem dX0_addToRows_37 : decode cX0_addToRows 37 = .ok (.aaload, 1) := by decide +kernel
theorem dX0_addToRows_38 : decode cX0_addToRows 38 = .ok (.iload_n 2, 1) := by decide +kernel
theorem dX0_addToRows_39 : decode cX0_addToRows 39 = .ok (.dup2, 1) := by decide +kernel
theorem dX0_addToRows_40 : decode cX0_addToRows 40 = .ok (.laload, 1) := by decide +kernel
theorem dX0_addToRows_41 : decode cX0_addToRows 41 = .ok (.lconst 1, 1) := by decide +kernel
theorem dX0_addToRows_42 : decode cX0_addToRows 42 = .ok (.lsub, 1) := by decide +kernel
theorem dX0_addToRows_43 : decode cX0_addToRows 43 = .ok (.lastore, 1) := by decide +kernel
theorem dX0_addToRows_44 : decode cX0_addToRows 44 = .ok (.aload_n 0, 1) := by decide +kernel
theorem dX0_addToRows_45 : decode cX0_addToRows 45 = .ok (.getfield 32, 3) := by decide +kernel
theorem dX0_addToRows_48 : decode cX0_addToRows 48 = .ok (.iload_n 2, 1) := by decide +kernel
theorem dX0_addToRows_49 : decode cX0_addToRows 49 = .ok (.aaload, 1) := by decide +kernel
theorem dX0_addToRows_50 : decode cX0_addToRows 50 = .ok (.iload_n 1, 1) := by decide +kernel
theorem dX0_addToRows_51 : decode cX0_addToRows 51 = .ok (.dup2, 1) := by decide +kernel
theorem dX0_addToRows_52 : decode cX0_addToRows 52 = .ok (.laload, 1) := by decide +kernel
theorem dX0_addToRows_53 : decode cX0_addToRows 53 = .ok (.lconst 1, 1) := by decide +kernel
theorem dX0_addToRows_54 : decode cX0_addToRows 54 = .ok (.lsub, 1) := by decide +kernel
theorem dX0_addToRows_55 : decode cX0_addToRows 55 = .ok (.lastore, 1) := by decide +kernel
theorem dX0_addToRows_56 : decode cX0_addToRows 56 = .ok (.aload_n 0, 1) := by decide +kernel
theorem dX0_addToRows_57 : decode cX0_addToRows 57 = .ok (.getfield 32, 3) := by decide +kernel
theorem dX0_addToRows_60 : decode cX0_addToRows 60 = .ok (.iload_n 2, 1) := by decide +kernel
theorem dX0_addToRows_61 : decode cX0_addToRows 61 = .ok (.aaload, 1) := by decide +kernel
theorem dX0_addToRows_62 : decode cX0_addToRows 62 = .ok (.iload_n 2, 1) := by decide +kernel
theorem dX0_addToRows_63 : decode cX0_addToRows 63 = .ok (.dup2, 1) := by decide +kernel
theorem dX0_addToRows_64 : decode cX0_addToRows 64 = .ok (.laload, 1) := by decide +kernel
theorem dX0_addToRows_65 : decode cX0_addToRows 65 = .ok (.lconst 1, 1) := by decide +kernel
theorem dX0_addToRows_66 : decode cX0_addToRows 66 = .ok (.ladd, 1) := by decide +kernel
theorem dX0_addToRows_67 : decode cX0_addToRows 67 = .ok (.lastore, 1) := by decide +kernel
theorem dX0_addToRows_68 : decode cX0_addToRows 68 = .ok (.aload_n 0, 1) := by decide +kernel
theorem dX0_addToRows_69 : decode cX0_addToRows 69 = .ok (.getfield 32, 3) := by decide +kernel
theorem dX0_addToRows_72 : decode cX0_addToRows 72 = .ok (.iload_n 2, 1) := by decide +kernel
theorem dX0_addToRows_73 : decode cX0_addToRows 73 = .ok (.aaload, 1) := by decide +kernel
theorem dX0_addToRows_74 : decode cX0_addToRows 74 = .ok (.iload 4, 2) := by decide +kernel
theorem dX0_addToRows_76 : decode cX0_addToRows 76 = .ok (.dup2, 1) := by decide +kernel
theorem dX0_addToRows_77 : decode cX0_addToRows 77 = .ok (.laload, 1) := by decide +kernel
theorem dX0_addToRows_78 : decode cX0_addToRows 78 = .ok (.iload_n 3, 1) := by decide +kernel
theorem dX0_addToRows_79 : decode cX0_addToRows 79 = .ok (.i2l, 1) := by decide +kernel
theorem dX0_addToRows_80 : decode cX0_addToRows 80 = .ok (.lsub, 1) := by decide +kernel
theorem dX0_addToRows_81 : decode cX0_addToRows 81 = .ok (.lastore, 1) := by decide +kernel
theorem dX0_addToRows_82 : decode cX0_addToRows 82 = .ok (.return_, 1) := by decide +kernel
theorem dX0_solveRows_0 : decode cX0_solveRows 0 = .ok (.lconst 1, 1) := by decide +kernel
theorem dX0_solveRows_1 : decode cX0_solveRows 1 = .ok (.lstore_n 2, 1) := by decide +kernel
theorem dX0_solveRows_2 : decode cX0_solveRows 2 = .ok (.iconst 0, 1) := by decide +kernel
theorem dX0_solveRows_3 : decode cX0_solveRows 3 = .ok (.istore 4, 2) := by decide +kernel
theorem dX0_solveRows_5 : decode cX0_solveRows 5 = .ok (.iload 4, 2) := by decide +kernel
theorem dX0_solveRows_7 : decode cX0_solveRows 7 = .ok (.iload_n 1, 1) := by decide +kernel
theorem dX0_solveRows_8 : decode cX0_solveRows 8 = .ok (.if_icmp .ge 65, 3) := by decide +kernel
theorem dX0_solveRows_11 : decode cX0_solveRows 11 = .ok (.aload_n 0, 1) := by decide +kernel
theorem dX0_solveRows_12 : decode cX0_solveRows 12 = .ok (.getfield 32, 3) := by decide +kernel
theorem dX0_solveRows_15 : decode cX0_solveRows 15 = .ok (.iload 4, 2) := by decide +kernel
theorem dX0_solveRows_17 : decode cX0_solveRows 17 = .ok (.aaload, 1) := by decide +kernel
theorem dX0_solveRows_18 : decode cX0_solveRows 18 = .ok (.iload 4, 2) := by decide +kernel
theorem dX0_solveRows_20 : decode cX0_solveRows 20 = .ok (.laload, 1) := by decide +kernel
theorem dX0_solveRows_21 : decode cX0_solveRows 21 = .ok (.lstore 5, 2) := by decide +kernel
theorem dX0_solveRows_23 : decode cX0_solveRows 23 = .ok (.lload 5, 2) := by decide +kernel
theorem dX0_solveRows_25 : decode cX0_solveRows 25 = .ok (.lconst 0, 1) := by decide +kernel
theorem dX0_solveRows_26 : decode cX0_solveRows 26 = .ok (.lcmp, 1) := by decide +kernel
theorem dX0_solveRows_27 : decode cX0_solveRows 27 = .ok (.ifCond .ne 5, 3) := by decide +kernel
theorem dX0_solveRows_30 : decode cX0_solveRows 30 = .ok (.lconst 0, 1) := by decide +kernel
theorem dX0_solveRows_31 : decode cX0_solveRows 31 = .ok (.lreturn, 1) := by decide +kernel
theorem dX0_solveRows_32 : decode cX0_solveRows 32 = .ok (.iconst 0, 1) := by decide +kernel
theorem dX0_solveRows_33 : decode cX0_solveRows 33 = .ok (.istore 7, 2) := by decide +kernel
theorem dX0_solveRows_35 : decode cX0_solveRows 35 = .ok (.iload 7, 2) := by decide +kernel
theorem dX0_solveRows_37 : decode cX0_solveRows 37 = .ok (.iload_n 1, 1) := by decide +kernel
theorem dX0_solveRows_38 : decode cX0_solveRows 38 = .ok (.if_icmp .ge 26, 3) := by decide +kernel
theorem dX0_solveRows_41 : decode cX0_solveRows 41 = .ok (.iload 7, 2) := by decide +kernel
theorem dX0_solveRows_43 : decode cX0_solveRows 43 = .ok (.iload 4, 2) := by decide +kernel
theorem dX0_solveRows_45 : decode cX0_solveRows 45 = .ok (.if_icmp .eq 13, 3) := by decide +kernel
theorem dX0_solveRows_48 : decode cX0_solveRows 48 = .ok (.aload_n 0, 1) := by decide +kernel
theorem dX0_solveRows_49 : decode cX0_solveRows 49 = .ok (.iload 7, 2) := by decide +kernel
theorem dX0_solveRows_51 : decode cX0_solveRows 51 = .ok (.iload 4, 2) := by decide +kernel
theorem dX0_solveRows_53 : decode cX0_solveRows 53 = .ok (.iload_n 1, 1) := by decide +kernel
theorem dX0_solveRows_54 : decode cX0_solveRows 54 = .ok (.lload_n 2, 1) := by decide +kernel
theorem dX0_solveRows_55 : decode cX0_solveRows 55 = .ok (.invokevirtual 119, 3) := by decide +kernel
theorem dX0_solveRows_58 : decode cX0_solveRows 58 = .ok (.iinc 7 1, 3) := by decide +kernel
theorem dX0_solveRows_61 : decode cX0_solveRows 61 = .ok (.goto (-26), 3) := by decide +kernel
theorem dX0_solveRows_64 : decode cX0_solveRows 64 = .ok (.lload 5, 2) := by decide +kernel
theorem dX0_solveRows_66 : decode cX0_solveRows 66 = .ok (.lstore_n 2, 1) := by decide +kernel
theorem dX0_solveRows_67 : decode cX0_solveRows 67 = .ok (.iinc 4 1, 3) := by decide +kernel
theorem dX0_solveRows_70 : decode cX0_solveRows 70 = .ok (.goto (-65), 3) := by decide +kernel
theorem dX0_solveRows_73 : decode cX0_solveRows 73 = .ok (.lload_n 2, 1) := by decide +kernel
theorem dX0_solveRows_74 : decode cX0_solveRows 74 = .ok (.lreturn, 1) := by decide +kernel
theorem dX0_clearRow_0 : decode cX0_clearRow 0 = .ok (.lload 4, 2) := by decide +kernel
theorem dX0_clearRow_2 : decode cX0_clearRow 2 = .ok (.lconst 0, 1) := by decide +kernel
theorem dX0_clearRow_3 : decode cX0_clearRow 3 = .ok (.lcmp, 1) := by decide +kernel
theorem dX0_clearRow_4 : decode cX0_clearRow 4 = .ok (.ifCond .ne 4, 3) := by decide +kernel
theorem dX0_clearRow_7 : decode cX0_clearRow 7 = .ok (.return_, 1) := by decide +kernel
theorem dX0_clearRow_8 : decode cX0_clearRow 8 = .ok (.aload_n 0, 1) := by decide +kernel
theorem dX0_clearRow_9 : decode cX0_clearRow 9 = .ok (.getfield 32, 3) := by decide +kernel
theorem dX0_clearRow_12 : decode cX0_clearRow 12 = .ok (.iload_n 2, 1) := by decide +kernel
theorem dX0_clearRow_13 : decode cX0_clearRow 13 = .ok (.aaload, 1) := by decide +kernel
theorem dX0_clearRow_14 : decode cX0_clearRow 14 = .ok (.iload_n 2, 1) := by decide +kernel
theorem dX0_clearRow_15 : decode cX0_clearRow 15 = .ok (.laload, 1) := by decide +kernel
theorem dX0_clearRow_16 : decode cX0_clearRow 16 = .ok (.lstore 6, 2) := by decide +kernel
theorem dX0_clearRow_18 : decode cX0_clearRow 18 = .ok (.aload_n 0, 1) := by decide +kernel
theorem dX0_clearRow_19 : decode cX0_clearRow 19 = .ok (.getfield 32, 3) := by decide +kernel
theorem dX0_clearRow_22 : decode cX0_clearRow 22 = .ok (.iload_n 1, 1) := by decide +kernel
theorem dX0_clearRow_23 : decode cX0_clearRow 23 = .ok (.aaload, 1) := by decide +kernel
theorem dX0_clearRow_24 : decode cX0_clearRow 24 = .ok (.iload_n 2, 1) := by decide +kernel
theorem dX0_clearRow_25 : decode cX0_clearRow 25 = .ok (.laload, 1) := by decide +kernel
theorem dX0_clearRow_26 : decode cX0_clearRow 26 = .ok (.lstore 8, 2) := by decide +kernel
theorem dX0_clearRow_28 : decode cX0_clearRow 28 = .ok (.iconst 0, 1) := by decide +kernel
theorem dX0_clearRow_29 : decode cX0_clearRow 29 = .ok (.istore 10, 2) := by decide +kernel
theorem dX0_clearRow_31 : decode cX0_clearRow 31 = .ok (.iload 10, 2) := by decide +kernel
theorem dX0_clearRow_33 : decode cX0_clearRow 33 = .ok (.iload_n 3, 1) := by decide +kernel
theorem dX0_clearRow_34 : decode cX0_clearRow 34 = .ok (.if_icmp .gt 46, 3) := by decide +kernel
theorem dX0_clearRow_37 : decode cX0_clearRow 37 = .ok (.aload_n 0, 1) := by decide +kernel
theorem dX0_clearRow_38 : decode cX0_clearRow 38 = .ok (.getfield 32, 3) := by decide +kernel
theorem dX0_clearRow_41 : decode cX0_clearRow 41 = .ok (.iload_n 1, 1) := by decide +kernel
theorem dX0_clearRow_42 : decode cX0_clearRow 42 = .ok (.aaload, 1) := by decide +kernel
theorem dX0_clearRow_43 : decode cX0_clearRow 43 = .ok (.iload 10, 2) := by decide +kernel
theorem dX0_clearRow_45 : decode cX0_clearRow 45 = .ok (.lload 6, 2) := by decide +kernel
theorem dX0_clearRow_47 : decode cX0_clearRow 47 = .ok (.aload_n 0, 1) := by decide +kernel
theorem dX0_clearRow_48 : decode cX0_clearRow 48 = .ok (.getfield 32, 3) := by decide +kernel
theorem dX0_clearRow_51 : decode cX0_clearRow 51 = .ok (.iload_n 1, 1) := by decide +kernel
theorem dX0_clearRow_52 : decode cX0_clearRow 52 = .ok (.aaload, 1) := by decide +kernel
theorem dX0_clearRow_53 : decode cX0_clearRow 53 = .ok (.iload 10, 2) := by decide +kernel
theorem dX0_clearRow_55 : decode cX0_clearRow 55 = .ok (.laload, 1) := by decide +kernel
theorem dX0_clearRow_56 : decode cX0_clearRow 56 = .ok (.lmul, 1) := by decide +kernel
theorem dX0_clearRow_57 : decode cX0_clearRow 57 = .ok (.lload 8, 2) := by decide +kernel
theorem dX0_clearRow_59 : decode cX0_clearRow 59 = .ok (.aload_n 0, 1) := by decide +kernel
theorem dX0_clearRow_60 : decode cX0_clearRow 60 = .ok (.getfield 32, 3) := by decide +kernel
theorem dX0_clearRow_63 : decode cX0_clearRow 63 = .ok (.iload_n 2, 1) := by decide +kernel
theorem dX0_clearRow_64 : decode cX0_clearRow 64 = .ok (.aaload, 1) := by decide +kernel
theorem dX0_clearRow_65 : decode cX0_clearRow 65 = .ok (.iload 10, 2) := by decide +kernel
theorem dX0_clearRow_67 : decode cX0_clearRow 67 = .ok (.laload, 1) := by decide +kernel
theorem dX0_clearRow_68 : decode cX0_clearRow 68 = .ok (.lmul, 1) := by decide +kernel
theorem dX0_clearRow_69 : decode cX0_clearRow 69 = .ok (.lsub, 1) := by decide +kernel
theorem dX0_clearRow_70 : decode cX0_clearRow 70 = .ok (.lload 4, 2) := by decide +kernel
theorem dX0_clearRow_72 : decode cX0_clearRow 72 = .ok (.ldiv, 1) := by decide +kernel
theorem dX0_clearRow_73 : decode cX0_clearRow 73 = .ok (.lastore, 1) := by decide +kernel
theorem dX0_clearRow_74 : decode cX0_clearRow 74 = .ok (.iinc 10 1, 3) := by decide +kernel
theorem dX0_clearRow_77 : decode cX0_clearRow 77 = .ok (.goto (-46), 3) := by decide +kernel
theorem dX0_clearRow_80 : decode cX0_clearRow 80 = .ok (.return_, 1) := by decide +kernel
theorem dX0_tellOffs_0 : decode cX0_tellOffs 0 = .ok (.lconst 0, 1) := by decide +kernel
theorem dX0_tellOffs_1 : decode cX0_tellOffs 1 = .ok (.lstore 4, 2) := by decide +kernel
theorem dX0_tellOffs_3 : decode cX0_tellOffs 3 = .ok (.iconst 0, 1) := by decide +kernel
theorem dX0_tellOffs_4 : decode cX0_tellOffs 4 = .ok (.istore 6, 2) := by decide +kernel
theorem dX0_tellOffs_6 : decode cX0_tellOffs 6 = .ok (.iload 6, 2) := by decide +kernel
theorem dX0_tellOffs_8 : decode cX0_tellOffs 8 = .ok (.iload_n 1, 1) := by decide +kernel
theorem dX0_tellOffs_9 : decode cX0_tellOffs 9 = .ok (.if_icmp .ge 21, 3) := by decide +kernel
theorem dX0_tellOffs_12 : decode cX0_tellOffs 12 = .ok (.lload 4, 2) := by decide +kernel
theorem dX0_tellOffs_14 : decode cX0_tellOffs 14 = .ok (.aload_n 0, 1) := by decide +kernel
theorem dX0_tellOffs_15 : decode cX0_tellOffs 15 = .ok (.getfield 35, 3) := by decide +kernel
theorem dX0_tellOffs_18 : decode cX0_tellOffs 18 = .ok (.iload 6, 2) := by decide +kernel
theorem dX0_tellOffs_20 : decode cX0_tellOffs 20 = .ok (.laload, 1) := by decide +kernel
theorem dX0_tellOffs_21 : decode cX0_tellOffs 21 = .ok (.ladd, 1) := by decide +kernel
theorem dX0_tellOffs_22 : decode cX0_tellOffs 22 = .ok (.lstore 4, 2) := by decide +kernel
theorem dX0_tellOffs_24 : decode cX0_tellOffs 24 = .ok (.iinc 6 1, 3) := by decide +kernel
theorem dX0_tellOffs_27 : decode cX0_tellOffs 27 = .ok (.goto (-21), 3) := by decide +kernel
theorem dX0_tellOffs_30 : decode cX0_tellOffs 30 = .ok (.iconst 0, 1) := by decide +kernel
theorem dX0_tellOffs_31 : decode cX0_tellOffs 31 = .ok (.istore 6, 2) := by decide +kernel
theorem dX0_tellOffs_33 : decode cX0_tellOffs 33 = .ok (.iload 6, 2) := by decide +kernel
theorem dX0_tellOffs_35 : decode cX0_tellOffs 35 = .ok (.iload_n 1, 1) := by decide +kernel
theorem dX0_tellOffs_36 : decode cX0_tellOffs 36 = .ok (.if_icmp .ge 41, 3) := by decide +kernel
theorem dX0_tellOffs_39 : decode cX0_tellOffs 39 = .ok (.aload_n 0, 1) := by decide +kernel
theorem dX0_tellOffs_40 : decode cX0_tellOffs 40 = .ok (.getfield 11, 3) := by decide +kernel
theorem dX0_tellOffs_43 : decode cX0_tellOffs 43 = .ok (.aload_n 0, 1) := by decide +kernel
theorem dX0_tellOffs_44 : decode cX0_tellOffs 44 = .ok (.getfield 27, 3) := by decide +kernel
theorem dX0_tellOffs_47 : decode cX0_tellOffs 47 = .ok (.iload 6, 2) := by decide +kernel
theorem dX0_tellOffs_49 : decode cX0_tellOffs 49 = .ok (.iaload, 1) := by decide +kernel
theorem dX0_tellOffs_50 : decode cX0_tellOffs 50 = .ok (.aaload, 1) := by decide +kernel
theorem dX0_tellOffs_51 : decode cX0_tellOffs 51 = .ok (.iload_n 1, 1) := by decide +kernel
theorem dX0_tellOffs_52 : decode cX0_tellOffs 52 = .ok (.i2l, 1) := by decide +kernel
theorem dX0_tellOffs_53 : decode cX0_tellOffs 53 = .ok (.aload_n 0, 1) := by decide +kernel
theorem dX0_tellOffs_54 : decode cX0_tellOffs 54 = .ok (.getfield 35, 3) := by decide +kernel
theorem dX0_tellOffs_57 : decode cX0_tellOffs 57 = .ok (.iload 6, 2) := by decide +kernel
theorem dX0_tellOffs_59 : decode cX0_tellOffs 59 = .ok (.laload, 1) := by decide +kernel
theorem dX0_tellOffs_60 : decode cX0_tellOffs 60 = .ok (.lmul, 1) := by decide +kernel
theorem dX0_tellOffs_61 : decode cX0_tellOffs 61 = .ok (.lload 4, 2) := by decide +kernel
theorem dX0_tellOffs_63 : decode cX0_tellOffs 63 = .ok (.lsub, 1) := by decide +kernel
theorem dX0_tellOffs_64 : decode cX0_tellOffs 64 = .ok (.iload_n 1, 1) := by decide +kernel
theorem dX0_tellOffs_65 : decode cX0_tellOffs 65 = .ok (.i2l, 1) := by decide +kernel
theorem dX0_tellOffs_66 : decode cX0_tellOffs 66 = .ok (.lload_n 2, 1) := by decide +kernel
theorem dX0_tellOffs_67 : decode cX0_tellOffs 67 = .ok (.lmul, 1) := by decide +kernel
theorem dX0_tellOffs_68 : decode cX0_tellOffs 68 = .ok (.invokevirtual 86, 3) := by decide +kernel
theorem dX0_tellOffs_71 : decode cX0_tellOffs 71 = .ok (.iinc 6 1, 3) := by decide +kernel
theorem dX0_tellOffs_74 : decode cX0_tellOffs 74 = .ok (.goto (-41), 3) := by decide +kernel
theorem dX0_tellOffs_77 : decode cX0_tellOffs 77 = .ok (.return_, 1) := by decide +kernel
theorem dX0_addClosed_0 : decode cX0_addClosed 0 = .ok (.lconst 0, 1) := by decide +kernel
theorem dX0_addClosed_1 : decode cX0_addClosed 1 = .ok (.lstore 4, 2) := by decide +kernel
theorem dX0_addClosed_3 : decode cX0_addClosed 3 = .ok (.iconst 0, 1) := by decide +kernel
theorem dX0_addClosed_4 : decode cX0_addClosed 4 = .ok (.istore 6, 2) := by decide +kernel
theorem dX0_addClosed_6 : decode cX0_addClosed 6 = .ok (.iload 6, 2) := by decide +kernel
theorem dX0_addClosed_8 : decode cX0_addClosed 8 = .ok (.iload_n 1, 1) := by decide +kernel
theorem dX0_addClosed_9 : decode cX0_addClosed 9 = .ok (.if_icmp .ge 78, 3) := by decide +kernel
theorem dX0_addClosed_12 : decode cX0_addClosed 12 = .ok (.iconst 0, 1) := by decide +kernel
theorem dX0_addClosed_13 : decode cX0_addClosed 13 = .ok (.istore 7, 2) := by decide +kernel
theorem dX0_addClosed_15 : decode cX0_addClosed 15 = .ok (.iload 7, 2) := by decide +kernel
theorem dX0_addClosed_17 : decode cX0_addClosed 17 = .ok (.iload 6, 2) := by decide +kernel
theorem dX0_addClosed_19 : decode cX0_addClosed 19 = .ok (.if_icmp .ge 62, 3) := by decide +kernel
theorem dX0_addClosed_22 : decode cX0_addClosed 22 = .ok (.aload_n 0, 1) := by decide +kernel
theorem dX0_addClosed_23 : decode cX0_addClosed 23 = .ok (.getfield 20, 3) := by decide +kernel
theorem dX0_addClosed_26 : decode cX0_addClosed 26 = .ok (.aload_n 0, 1) := by decide +kernel
theorem dX0_addClosed_27 : decode cX0_addClosed 27 = .ok (.getfield 27, 3) := by decide +kernel
theorem dX0_addClosed_30 : decode cX0_addClosed 30 = .ok (.iload 7, 2) := by decide +kernel
theorem dX0_addClosed_32 : decode cX0_addClosed 32 = .ok (.iaload, 1) := by decide +kernel
theorem dX0_addClosed_33 : decode cX0_addClosed 33 = .ok (.aaload, 1) := by decide +kernel
theorem dX0_addClosed_34 : decode cX0_addClosed 34 = .ok (.aload_n 0, 1) := by decide +kernel
theorem dX0_addClosed_35 : decode cX0_addClosed 35 = .ok (.getfield 27, 3) := by decide +kernel
theorem dX0_addClosed_38 : decode cX0_addClosed 38 = .ok (.iload 6, 2) := by decide +kernel
theorem dX0_addClosed_40 : decode cX0_addClosed 40 = .ok (.iaload, 1) := by decide +kernel
theorem dX0_addClosed_41 : decode cX0_addClosed 41 = .ok (.iaload, 1) := by decide +kernel
theorem dX0_addClosed_42 : decode cX0_addClosed 42 = .ok (.istore 8, 2) := by decide +kernel
theorem dX0_addClosed_44 : decode cX0_addClosed 44 = .ok (.iload 8, 2) := by decide +kernel
theorem dX0_addClosed_46 : decode cX0_addClosed 46 = .ok (.ldc 90, 2) := by decide +kernel
theorem dX0_addClosed_48 : decode cX0_addClosed 48 = .ok (.if_icmp .eq 27, 3) := by decide +kernel
theorem dX0_addClosed_51 : decode cX0_addClosed 51 = .ok (.lload 4, 2) := by decide +kernel
theorem dX0_addClosed_53 : decode cX0_addClosed 53 = .ok (.iload 8, 2) := by decide +kernel
theorem dX0_addClosed_55 : decode cX0_addClosed 55 = .ok (.i2l, 1) := by decide +kernel
theorem dX0_addClosed_56 : decode cX0_addClosed 56 = .ok (.aload_n 0, 1) := by decide +kernel
theorem dX0_addClosed_57 : decode cX0_addClosed 57 = .ok (.getfield 35, 3) := by decide +kernel
theorem dX0_addClosed_60 : decode cX0_addClosed 60 = .ok (.iload 7, 2) := by decide +kernel
theorem dX0_addClosed_62 : decode cX0_addClosed 62 = .ok (.laload, 1) := by decide +kernel
theorem dX0_addClosed_63 : decode cX0_addClosed 63 = .ok (.aload_n 0, 1) := by decide +kernel
theorem dX0_addClosed_64 : decode cX0_addClosed 64 = .ok (.getfield 35, 3) := by decide +kernel
theorem dX0_addClosed_67 : decode cX0_addClosed 67 = .ok (.iload 6, 2) := by decide +kernel
theorem dX0_addClosed_69 : decode cX0_addClosed 69 = .ok (.laload, 1) := by decide +kernel
theorem dX0_addClosed_70 : decode cX0_addClosed 70 = .ok (.lsub, 1) := by decide +kernel
theorem dX0_addClosed_71 : decode cX0_addClosed 71 = .ok (.lmul, 1) := by decide +kernel
theorem dX0_addClosed_72 : decode cX0_addClosed 72 = .ok (.ladd, 1) := by decide +kernel
theorem dX0_addClosed_73 : decode cX0_addClosed 73 = .ok (.lstore 4, 2) := by decide +kernel
theorem dX0_addClosed_75 : decode cX0_addClosed 75 = .ok (.iinc 7 1, 3) := by decide +kernel
theorem dX0_addClosed_78 : decode cX0_addClosed 78 = .ok (.goto (-63), 3) := by decide +kernel
theorem dX0_addClosed_81 : decode cX0_addClosed 81 = .ok (.iinc 6 1, 3) := by decide +kernel
theorem dX0_addClosed_84 : decode cX0_addClosed 84 = .ok (.goto (-78), 3) := by decide +kernel
theorem dX0_addClosed_87 : decode cX0_addClosed 87 = .ok (.aload_n 0, 1) := by decide +kernel
theorem dX0_addClosed_88 : decode cX0_addClosed 88 = .ok (.aload_n 0, 1) := by decide +kernel
theorem dX0_addClosed_89 : decode cX0_addClosed 89 = .ok (.getfield 39, 3) := by decide +kernel
theorem dX0_addClosed_92 : decode cX0_addClosed 92 = .ok (.lload_n 2, 1) := by decide +kernel
theorem dX0_addClosed_93 : decode cX0_addClosed 93 = .ok (.lmul, 1) := by decide +kernel
theorem dX0_addClosed_94 : decode cX0_addClosed 94 = .ok (.lload 4, 2) := by decide +kernel
theorem dX0_addClosed_96 : decode cX0_addClosed 96 = .ok (.aload_n 0, 1) := by decide +kernel
theorem dX0_addClosed_97 : decode cX0_addClosed 97 = .ok (.getfield 43, 3) := by decide +kernel
theorem dX0_addClosed_100 : decode cX0_addClosed 100 = .ok (.lmul, 1) := by decide +kernel
theorem dX0_addClosed_101 : decode cX0_addClosed 101 = .ok (.ladd, 1) := by decide +kernel
theorem dX0_addClosed_102 : decode cX0_addClosed 102 = .ok (.putfield 39, 3) := by decide +kernel
theorem dX0_addClosed_105 : decode cX0_addClosed 105 = .ok (.aload_n 0, 1) := by decide +kernel
theorem dX0_addClosed_106 : decode cX0_addClosed 106 = .ok (.dup, 1) := by decide +kernel
theorem dX0_addClosed_107 : decode cX0_addClosed 107 = .ok (.getfield 43, 3) := by decide +kernel
theorem dX0_addClosed_110 : decode cX0_addClosed 110 = .ok (.lload_n 2, 1) := by decide +kernel
theorem dX0_addClosed_111 : decode cX0_addClosed 111 = .ok (.lmul, 1) := by decide +kernel
theorem dX0_addClosed_112 : decode cX0_addClosed 112 = .ok (.putfield 43, 3) := by decide +kernel
theorem dX0_addClosed_115 : decode cX0_addClosed 115 = .ok (.return_, 1) := by decide +kernel
theorem dX1_init_0 : decode cX1_init 0 = .ok (.aload_n 0, 1) := by decide +kernel
theorem dX1_init_1 : decode cX1_init 1 = .ok (.invokespecial 3, 3) := by decide +kernel
theorem dX1_init_4 : decode cX1_init 4 = .ok (.aload_n 0, 1) := by decide +kernel
theorem dX1_init_5 : decode cX1_init 5 = .ok (.iconst 0, 1) := by decide +kernel
theorem dX1_init_6 : decode cX1_init 6 = .ok (.putfield 9, 3) := by decide +kernel
theorem dX1_init_9 : decode cX1_init 9 = .ok (.aload_n 0, 1) := by decide +kernel
theorem dX1_init_10 : decode cX1_init 10 = .ok (.lconst 1, 1) := by decide +kernel
theorem dX1_init_11 : decode cX1_init 11 = .ok (.putfield 15, 3) := by decide +kernel
theorem dX1_init_14 : decode cX1_init 14 = .ok (.return_, 1) := by decide +kernel
theorem dX1_find_0 : decode cX1_find 0 = .ok (.aload_n 1, 1) := by decide +kernel
theorem dX1_find_1 : decode cX1_find 1 = .ok (.getfield 19, 3) := by decide +kernel
theorem dX1_find_4 : decode cX1_find 4 = .ok (.i2l, 1) := by decide +kernel
theorem dX1_find_5 : decode cX1_find 5 = .ok (.aload_n 2, 1) := by decide +kernel
theorem dX1_find_6 : decode cX1_find 6 = .ok (.getfield 25, 3) := by decide +kernel
theorem dX1_find_9 : decode cX1_find 9 = .ok (.i2l, 1) := by decide +kernel
theorem dX1_find_10 : decode cX1_find 10 = .ok (.lmul, 1) := by decide +kernel
theorem dX1_find_11 : decode cX1_find 11 = .ok (.aload_n 1, 1) := by decide +kernel
theorem dX1_find_12 : decode cX1_find 12 = .ok (.getfield 25, 3) := by decide +kernel
theorem dX1_find_15 : decode cX1_find 15 = .ok (.i2l, 1) := by decide +kernel
theorem dX1_find_16 : decode cX1_find 16 = .ok (.aload_n 2, 1) := by decide +kernel
theorem dX1_find_17 : decode cX1_find 17 = .ok (.getfield 19, 3) := by decide +kernel
theorem dX1_find_20 : decode cX1_find 20 = .ok (.i2l, 1) := by decide +kernel
theorem dX1_find_21 : decode cX1_find 21 = .ok (.lmul, 1) := by decide +kernel
theorem dX1_find_22 : decode cX1_find 22 = .ok (.lsub, 1) := by decide +kernel
theorem dX1_find_23 : decode cX1_find 23 = .ok (.lstore_n 3, 1) := by decide +kernel
theorem dX1_find_24 : decode cX1_find 24 = .ok (.lload_n 3, 1) := by decide +kernel
theorem dX1_find_25 : decode cX1_find 25 = .ok (.lconst 0, 1) := by decide +kernel
theorem dX1_find_26 : decode cX1_find 26 = .ok (.lcmp, 1) := by decide +kernel
theorem dX1_find_27 : decode cX1_find 27 = .ok (.ifCond .ge 9, 3) := by decide +kernel
theorem dX1_find_30 : decode cX1_find 30 = .ok (.ldc2_w 28, 3) := by decide +kernel
theorem dX1_find_33 : decode cX1_find 33 = .ok (.goto 4, 3) := by decide +kernel
theorem dX1_find_36 : decode cX1_find 36 = .ok (.lconst 1, 1) := by decide +kernel
theorem dX1_find_37 : decode cX1_find 37 = .ok (.lstore 5, 2) := by decide +kernel
theorem dX1_find_39 : decode cX1_find 39 = .ok (.aload_n 2, 1) := by decide +kernel
theorem dX1_find_40 : decode cX1_find 40 = .ok (.getfield 30, 3) := by decide +kernel
theorem dX1_find_43 : decode cX1_find 43 = .ok (.aload_n 1, 1) := by decide +kernel
theorem dX1_find_44 : decode cX1_find 44 = .ok (.getfield 30, 3) := by decide +kernel
theorem dX1_find_47 : decode cX1_find 47 = .ok (.isub, 1) := by decide +kernel
theorem dX1_find_48 : decode cX1_find 48 = .ok (.i2l, 1) := by decide +kernel
theorem dX1_find_49 : decode cX1_find 49 = .ok (.lstore 7, 2) := by decide +kernel
theorem dX1_find_51 : decode cX1_find 51 = .ok (.aload_n 2, 1) := by decide +kernel
theorem dX1_find_52 : decode cX1_find 52 = .ok (.getfield 33, 3) := by decide +kernel
theorem dX1_find_55 : decode cX1_find 55 = .ok (.aload_n 1, 1) := by decide +kernel
theorem dX1_find_56 : decode cX1_find 56 = .ok (.getfield 33, 3) := by decide +kernel
theorem dX1_find_59 : decode cX1_find 59 = .ok (.isub, 1) := by decide +kernel
theorem dX1_find_60 : decode cX1_find 60 = .ok (.i2l, 1) := by decide +kernel
theorem dX1_find_61 : decode cX1_find 61 = .ok (.lstore 9, 2) := by decide +kernel
theorem dX1_find_63 : decode cX1_find 63 = .ok (.aload_n 0, 1) := by decide +kernel
theorem dX1_find_64 : decode cX1_find 64 = .ok (.lload 5, 2) := by decide +kernel
theorem dX1_find_66 : decode cX1_find 66 = .ok (.lload 7, 2) := by decide +kernel
theorem dX1_find_68 : decode cX1_find 68 = .ok (.aload_n 2, 1) := by decide +kernel
theorem dX1_find_69 : decode cX1_find 69 = .ok (.getfield 25, 3) := by decide +kernel
theorem dX1_find_72 : decode cX1_find 72 = .ok (.i2l, 1) := by decide +kernel
theorem dX1_find_73 : decode cX1_find 73 = .ok (.lmul, 1) := by decide +kernel
theorem dX1_find_74 : decode cX1_find 74 = .ok (.lload 9, 2) := by decide +kernel
theorem dX1_find_76 : decode cX1_find 76 = .ok (.aload_n 2, 1) := by decide +kernel
theorem dX1_find_77 : decode cX1_find 77 = .ok (.getfield 19, 3) := by decide +kernel
theorem dX1_find_80 : decode cX1_find 80 = .ok (.i2l, 1) := by decide +kernel
theorem dX1_find_81 : decode cX1_find 81 = .ok (.lmul, 1) := by decide +kernel
theorem dX1_find_82 : decode cX1_find 82 = .ok (.lsub, 1) := by decide +kernel
theorem dX1_find_83 : decode cX1_find 83 = .ok (.lmul, 1) := by decide +kernel
theorem dX1_find_84 : decode cX1_find 84 = .ok (.putfield 36, 3) := by decide +kernel
theorem dX1_find_87 : decode cX1_find 87 = .ok (.aload_n 0, 1) := by decide +kernel
theorem dX1_find_88 : decode cX1_find 88 = .ok (.lload 5, 2) := by decide +kernel
theorem dX1_find_90 : decode cX1_find 90 = .ok (.lload 7, 2) := by decide +kernel
theorem dX1_find_92 : decode cX1_find 92 = .ok (.aload_n 1, 1) := by decide +kernel
theorem dX1_find_93 : decode cX1_find 93 = .ok (.getfield 25, 3) := by decide +kernel
theorem dX1_find_96 : decode cX1_find 96 = .ok (.i2l, 1) := by decide +kernel
theorem dX1_find_97 : decode cX1_find 97 = .ok (.lmul, 1) := by decide +kernel
theorem dX1_find_98 : decode cX1_find 98 = .ok (.lload 9, 2) := by decide +kernel
theorem dX1_find_100 : decode cX1_find 100 = .ok (.aload_n 1, 1) := by decide +kernel
theorem dX1_find_101 : decode cX1_find 101 = .ok (.getfield 19, 3) := by decide +kernel
theorem dX1_find_104 : decode cX1_find 104 = .ok (.i2l, 1) := by decide +kernel
theorem dX1_find_105 : decode cX1_find 105 = .ok (.lmul, 1) := by decide +kernel
theorem dX1_find_106 : decode cX1_find 106 = .ok (.lsub, 1) := by decide +kernel
theorem dX1_find_107 : decode cX1_find 107 = .ok (.lmul, 1) := by decide +kernel
theorem dX1_find_108 : decode cX1_find 108 = .ok (.putfield 39, 3) := by decide +kernel
theorem dX1_find_111 : decode cX1_find 111 = .ok (.aload_n 0, 1) := by decide +kernel
theorem dX1_find_112 : decode cX1_find 112 = .ok (.lload 5, 2) := by decide +kernel
theorem dX1_find_114 : decode cX1_find 114 = .ok (.lload_n 3, 1) := by decide +kernel
theorem dX1_find_115 : decode cX1_find 115 = .ok (.lmul, 1) := by decide +kernel
theorem dX1_find_116 : decode cX1_find 116 = .ok (.putfield 15, 3) := by decide +kernel
theorem dX1_find_119 : decode cX1_find 119 = .ok (.aload_n 0, 1) := by decide +kernel
theorem dX1_find_120 : decode cX1_find 120 = .ok (.aload_n 0, 1) := by decide +kernel
theorem dX1_find_121 : decode cX1_find 121 = .ok (.getfield 15, 3) := by decide +kernel
theorem dX1_find_124 : decode cX1_find 124 = .ok (.lconst 0, 1) := by decide +kernel
theorem dX1_find_125 : decode cX1_find 125 = .ok (.lcmp, 1) := by decide +kernel
theorem dX1_find_126 : decode cX1_find 126 = .ok (.ifCond .eq 49, 3) := by decide +kernel
theorem dX1_find_129 : decode cX1_find 129 = .ok (.aload_n 0, 1) := by decide +kernel
theorem dX1_find_130 : decode cX1_find 130 = .ok (.getfield 36, 3) := by decide +kernel
theorem dX1_find_133 : decode cX1_find 133 = .ok (.lconst 0, 1) := by decide +kernel
theorem dX1_find_134 : decode cX1_find 134 = .ok (.lcmp, 1) := by decide +kernel
theorem dX1_find_135 : decode cX1_find 135 = .ok (.ifCond .lt 40, 3) := by decide +kernel
theorem dX1_find_138 : decode cX1_find 138 = .ok (.aload_n 0, 1) := by decide +kernel
theorem dX1_find_139 : decode cX1_find 139 = .ok (.getfield 36, 3) := by decide +kernel
theorem dX1_find_142 : decode cX1_find 142 = .ok (.aload_n 0, 1) := by decide +kernel
theorem dX1_find_143 : decode cX1_find 143 = .ok (.getfield 15, 3) := by decide +kernel
theorem dX1_find_146 : decode cX1_find 146 = .ok (.lcmp, 1) := by decide +kernel
theorem dX1_find_147 : decode cX1_find 147 = .ok (.ifCond .gt 28, 3) := by decide +kernel
theorem dX1_find_150 : decode cX1_find 150 = .ok (.aload_n 0, 1) := by decide +kernel
theorem dX1_find_151 : decode cX1_find 151 = .ok (.getfield 39, 3) := by decide +kernel
theorem dX1_find_154 : decode cX1_find 154 = .ok (.lconst 0, 1) := by decide +kernel
theorem dX1_find_155 : decode cX1_find 155 = .ok (.lcmp, 1) := by decide +kernel
theorem dX1_find_156 : decode cX1_find 156 = .ok (.ifCond .lt 19, 3) := by decide +kernel
theorem dX1_find_159 : decode cX1_find 159 = .ok (.aload_n 0, 1) := by decide +kernel
theorem dX1_find_160 : decode cX1_find 160 = .ok (.getfield 39, 3) := by decide +kernel
theorem dX1_find_163 : decode cX1_find 163 = .ok (.aload_n 0, 1) := by decide +kernel
theorem dX1_find_164 : decode cX1_find 164 = .ok (.getfield 15, 3) := by decide +kernel
theorem dX1_find_167 : decode cX1_find 167 = .ok (.lcmp, 1) := by decide +kernel
theorem dX1_find_168 : decode cX1_find 168 = .ok (.ifCond .gt 7, 3) := by decide +kernel
theorem dX1_find_171 : decode cX1_find 171 = .ok (.iconst 1, 1) := by decide +kernel
theorem dX1_find_172 : decode cX1_find 172 = .ok (.goto 4, 3) := by decide +kernel
theorem dX1_find_175 : decode cX1_find 175 = .ok (.iconst 0, 1) := by decide +kernel
theorem dX1_find_176 : decode cX1_find 176 = .ok (.putfield 9, 3) := by decide +kernel
theorem dX1_find_179 : decode cX1_find 179 = .ok (.return_, 1) := by decide +kernel
theorem dX1_aboveOf_0 : decode cX1_aboveOf 0 = .ok (.iload_n 1, 1) := by decide +kernel
theorem dX1_aboveOf_1 : decode cX1_aboveOf 1 = .ok (.tableswitch 171 0 7 #[47, 69, 91, 113, 135, 140, 145, 158], 47) := by decide +kernel
theorem dX1_aboveOf_48 : decode cX1_aboveOf 48 = .ok (.aload_n 2, 1) := by decide +kernel
theorem dX1_aboveOf_49 : decode cX1_aboveOf 49 = .ok (.getfield 30, 3) := by decide +kernel
theorem dX1_aboveOf_52 : decode cX1_aboveOf 52 = .ok (.i2l, 1) := by decide +kernel
theorem dX1_aboveOf_53 : decode cX1_aboveOf 53 = .ok (.aload_n 0, 1) := by decide +kernel
theorem dX1_aboveOf_54 : decode cX1_aboveOf 54 = .ok (.getfield 15, 3) := by decide +kernel
theorem dX1_aboveOf_57 : decode cX1_aboveOf 57 = .ok (.lmul, 1) := by decide +kernel
theorem dX1_aboveOf_58 : decode cX1_aboveOf 58 = .ok (.aload_n 2, 1) := by decide +kernel
theorem dX1_aboveOf_59 : decode cX1_aboveOf 59 = .ok (.getfield 19, 3) := by decide +kernel
theorem dX1_aboveOf_62 : decode cX1_aboveOf 62 = .ok (.i2l, 1) := by decide +kernel
theorem dX1_aboveOf_63 : decode cX1_aboveOf 63 = .ok (.aload_n 0, 1) := by decide +kernel
theorem dX1_aboveOf_64 : decode cX1_aboveOf 64 = .ok (.getfield 36, 3) := by decide +kernel
theorem dX1_aboveOf_67 : decode cX1_aboveOf 67 = .ok (.lmul, 1) := by decide +kernel
theorem dX1_aboveOf_68 : decode cX1_aboveOf 68 = .ok (.ladd, 1) := by decide +kernel
theorem dX1_aboveOf_69 : decode cX1_aboveOf 69 = .ok (.lreturn, 1) := by decide +kernel
theorem dX1_aboveOf_70 : decode cX1_aboveOf 70 = .ok (.aload_n 2, 1) := by decide +kernel
theorem dX1_aboveOf_71 : decode cX1_aboveOf 71 = .ok (.getfield 33, 3) := by decide +kernel
theorem dX1_aboveOf_74 : decode cX1_aboveOf 74 = .ok (.i2l, 1) := by decide +kernel
theorem dX1_aboveOf_75 : decode cX1_aboveOf 75 = .ok (.aload_n 0, 1) := by decide +kernel
theorem dX1_aboveOf_76 : decode cX1_aboveOf 76 = .ok (.getfield 15, 3) := by decide +kernel
theorem dX1_aboveOf_79 : decode cX1_aboveOf 79 = .ok (.lmul, 1) := by decide +kernel
theorem dX1_aboveOf_80 : decode cX1_aboveOf 80 = .ok (.aload_n 2, 1) := by decide +kernel
theorem dX1_aboveOf_81 : decode cX1_aboveOf 81 = .ok (.getfield 25, 3) := by decide +kernel
theorem dX1_aboveOf_84 : decode cX1_aboveOf 84 = .ok (.i2l, 1) := by decide +kernel
theorem dX1_aboveOf_85 : decode cX1_aboveOf 85 = .ok (.aload_n 0, 1) := by decide +kernel
theorem dX1_aboveOf_86 : decode cX1_aboveOf 86 = .ok (.getfield 36, 3) := by decide +kernel
theorem dX1_aboveOf_89 : decode cX1_aboveOf 89 = .ok (.lmul, 1) := by decide +kernel
theorem dX1_aboveOf_90 : decode cX1_aboveOf 90 = .ok (.ladd, 1) := by decide +kernel
theorem dX1_aboveOf_91 : decode cX1_aboveOf 91 = .ok (.lreturn, 1) := by decide +kernel
theorem dX1_aboveOf_92 : decode cX1_aboveOf 92 = .ok (.aload_n 2, 1) := by decide +kernel
theorem dX1_aboveOf_93 : decode cX1_aboveOf 93 = .ok (.getfield 42, 3) := by decide +kernel
theorem dX1_aboveOf_96 : decode cX1_aboveOf 96 = .ok (.i2l, 1) := by decide +kernel
theorem dX1_aboveOf_97 : decode cX1_aboveOf 97 = .ok (.aload_n 0, 1) := by decide +kernel
theorem dX1_aboveOf_98 : decode cX1_aboveOf 98 = .ok (.getfield 15, 3) := by decide +kernel
theorem dX1_aboveOf_101 : decode cX1_aboveOf 101 = .ok (.lmul, 1) := by decide +kernel
theorem dX1_aboveOf_102 : decode cX1_aboveOf 102 = .ok (.aload_n 2, 1) := by decide +kernel
theorem dX1_aboveOf_103 : decode cX1_aboveOf 103 = .ok (.getfield 45, 3) := by decide +kernel
theorem dX1_aboveOf_106 : decode cX1_aboveOf 106 = .ok (.i2l, 1) := by decide +kernel
theorem dX1_aboveOf_107 : decode cX1_aboveOf 107 = .ok (.aload_n 0, 1) := by decide +kernel
theorem dX1_aboveOf_108 : decode cX1_aboveOf 108 = .ok (.getfield 36, 3) := by decide +kernel
theorem dX1_aboveOf_111 : decode cX1_aboveOf 111 = .ok (.lmul, 1) := by decide +kernel
theorem dX1_aboveOf_112 : decode cX1_aboveOf 112 = .ok (.ladd, 1) := by decide +kernel
theorem dX1_aboveOf_113 : decode cX1_aboveOf 113 = .ok (.lreturn, 1) := by decide +kernel
theorem dX1_aboveOf_114 : decode cX1_aboveOf 114 = .ok (.aload_n 3, 1) := by decide +kernel
theorem dX1_aboveOf_115 : decode cX1_aboveOf 115 = .ok (.getfield 42, 3) := by decide +kernel
theorem dX1_aboveOf_118 : decode cX1_aboveOf 118 = .ok (.i2l, 1) := by decide +kernel
theorem dX1_aboveOf_119 : decode cX1_aboveOf 119 = .ok (.aload_n 0, 1) := by decide +kernel
theorem dX1_aboveOf_120 : decode cX1_aboveOf 120 = .ok (.getfield 15, 3) := by decide +kernel
theorem dX1_aboveOf_123 : decode cX1_aboveOf 123 = .ok (.lmul, 1) := by decide +kernel
theorem dX1_aboveOf_124 : decode cX1_aboveOf 124 = .ok (.aload_n 3, 1) := by decide +kernel
theorem dX1_aboveOf_125 : decode cX1_aboveOf 125 = .ok (.getfield 45, 3) := by decide +kernel
theorem dX1_aboveOf_128 : decode cX1_aboveOf 128 = .ok (.i2l, 1) := by decide +kernel
theorem dX1_aboveOf_129 : decode cX1_aboveOf 129 = .ok (.aload_n 0, 1) := by decide +kernel
theorem dX1_aboveOf_130 : decode cX1_aboveOf 130 = .ok (.getfield 39, 3) := by decide +kernel
theorem dX1_aboveOf_133 : decode cX1_aboveOf 133 = .ok (.lmul, 1) := by decide +kernel
theorem dX1_aboveOf_134 : decode cX1_aboveOf 134 = .ok (.ladd, 1) := by decide +kernel
theorem dX1_aboveOf_135 : decode cX1_aboveOf 135 = .ok (.lreturn, 1) := by decide +kernel
theorem dX1_aboveOf_136 : decode cX1_aboveOf 136 = .ok (.aload_n 0, 1) := by decide +kernel
theorem dX1_aboveOf_137 : decode cX1_aboveOf 137 = .ok (.getfield 36, 3) := by decide +kernel
theorem dX1_aboveOf_140 : decode cX1_aboveOf 140 = .ok (.lreturn, 1) := by decide +kernel
theorem dX1_aboveOf_141 : decode cX1_aboveOf 141 = .ok (.aload_n 0, 1) := by decide +kernel
theorem dX1_aboveOf_142 : decode cX1_aboveOf 142 = .ok (.getfield 39, 3) := by decide +kernel
theorem dX1_aboveOf_145 : decode cX1_aboveOf 145 = .ok (.lreturn, 1) := by decide +kernel
theorem dX1_aboveOf_146 : decode cX1_aboveOf 146 = .ok (.aload_n 2, 1) := by decide +kernel
theorem dX1_aboveOf_147 : decode cX1_aboveOf 147 = .ok (.aload_n 0, 1) := by decide +kernel
theorem dX1_aboveOf_148 : decode cX1_aboveOf 148 = .ok (.getfield 36, 3) := by decide +kernel
theorem dX1_aboveOf_151 : decode cX1_aboveOf 151 = .ok (.aload_n 0, 1) := by decide +kernel
theorem dX1_aboveOf_152 : decode cX1_aboveOf 152 = .ok (.getfield 15, 3) := by decide +kernel
theorem dX1_aboveOf_155 : decode cX1_aboveOf 155 = .ok (.invokevirtual 48, 3) := by decide +kernel
theorem dX1_aboveOf_158 : decode cX1_aboveOf 158 = .ok (.lreturn, 1) := by decide +kernel
theorem dX1_aboveOf_159 : decode cX1_aboveOf 159 = .ok (.aload_n 3, 1) := by decide +kernel
theorem dX1_aboveOf_160 : decode cX1_aboveOf 160 = .ok (.aload_n 0, 1) := by decide +kernel
theorem dX1_aboveOf_161 : decode cX1_aboveOf 161 = .ok (.getfield 39, 3) := by decide +kernel
theorem dX1_aboveOf_164 : decode cX1_aboveOf 164 = .ok (.aload_n 0, 1) := by decide +kernel
theorem dX1_aboveOf_165 : decode cX1_aboveOf 165 = .ok (.getfield 15, 3) := by decide +kernel
theorem dX1_aboveOf_168 : decode cX1_aboveOf 168 = .ok (.invokevirtual 48, 3) := by decide +kernel
theorem dX1_aboveOf_171 : decode cX1_aboveOf 171 = .ok (.lreturn, 1) := by decide +kernel
theorem dX1_aboveOf_172 : decode cX1_aboveOf 172 = .ok (.ldc2_w 52, 3) := by decide +kernel
theorem dX1_aboveOf_175 : decode cX1_aboveOf 175 = .ok (.lreturn, 1) := by decide +kernel
theorem dX1_differenceOf_0 : decode cX1_differenceOf 0 = .ok (.aload_n 1, 1) := by decide +kernel
theorem dX1_differenceOf_1 : decode cX1_differenceOf 1 = .ok (.getfield 54, 3) := by decide +kernel
theorem dX1_differenceOf_4 : decode cX1_differenceOf 4 = .ok (.ifCond .ne 10, 3) := by decide +kernel
theorem dX1_differenceOf_7 : decode cX1_differenceOf 7 = .ok (.aload_n 2, 1) := by decide +kernel
theorem dX1_differenceOf_8 : decode cX1_differenceOf 8 = .ok (.getfield 54, 3) := by decide +kernel
theorem dX1_differenceOf_11 : decode cX1_differenceOf 11 = .ok (.ifCond .eq 6, 3) := by decide +kernel
theorem dX1_differenceOf_14 : decode cX1_differenceOf 14 = .ok (.ldc 57, 2) := by decide +kernel
theorem dX1_differenceOf_16 : decode cX1_differenceOf 16 = .ok (.ireturn, 1) := by decide +kernel
theorem dX1_differenceOf_17 : decode cX1_differenceOf 17 = .ok (.aload_n 0, 1) := by decide +kernel
theorem dX1_differenceOf_18 : decode cX1_differenceOf 18 = .ok (.aload_n 1, 1) := by decide +kernel
theorem dX1_differenceOf_19 : decode cX1_differenceOf 19 = .ok (.aload_n 2, 1) := by decide +kernel
theorem dX1_differenceOf_20 : decode cX1_differenceOf 20 = .ok (.invokevirtual 58, 3) := by decide +kernel
theorem dX1_differenceOf_23 : decode cX1_differenceOf 23 = .ok (.aload_n 0, 1) := by decide +kernel
theorem dX1_differenceOf_24 : decode cX1_differenceOf 24 = .ok (.getfield 9, 3) := by decide +kernel
theorem dX1_differenceOf_27 : decode cX1_differenceOf 27 = .ok (.ifCond .eq 12, 3) := by decide +kernel
theorem dX1_differenceOf_30 : decode cX1_differenceOf 30 = .ok (.aload_n 0, 1) := by decide +kernel
theorem dX1_differenceOf_31 : decode cX1_differenceOf 31 = .ok (.getfield 15, 3) := by decide +kernel
theorem dX1_differenceOf_34 : decode cX1_differenceOf 34 = .ok (.lconst 0, 1) := by decide +kernel
theorem dX1_differenceOf_35 : decode cX1_differenceOf 35 = .ok (.lcmp, 1) := by decide +kernel
theorem dX1_differenceOf_36 : decode cX1_differenceOf 36 = .ok (.ifCond .gt 6, 3) := by decide +kernel
theorem dX1_differenceOf_39 : decode cX1_differenceOf 39 = .ok (.ldc 57, 2) := by decide +kernel
theorem dX1_differenceOf_41 : decode cX1_differenceOf 41 = .ok (.ireturn, 1) := by decide +kernel
theorem dX1_differenceOf_42 : decode cX1_differenceOf 42 = .ok (.aload_n 1, 1) := by decide +kernel
theorem dX1_differenceOf_43 : decode cX1_differenceOf 43 = .ok (.aload_n 0, 1) := by decide +kernel
theorem dX1_differenceOf_44 : decode cX1_differenceOf 44 = .ok (.getfield 36, 3) := by decide +kernel
theorem dX1_differenceOf_47 : decode cX1_differenceOf 47 = .ok (.aload_n 0, 1) := by decide +kernel
theorem dX1_differenceOf_48 : decode cX1_differenceOf 48 = .ok (.getfield 15, 3) := by decide +kernel
theorem dX1_differenceOf_51 : decode cX1_differenceOf 51 = .ok (.invokevirtual 48, 3) := by decide +kernel
theorem dX1_differenceOf_54 : decode cX1_differenceOf 54 = .ok (.lstore_n 3, 1) := by decide +kernel
theorem dX1_differenceOf_55 : decode cX1_differenceOf 55 = .ok (.aload_n 2, 1) := by decide +kernel
theorem dX1_differenceOf_56 : decode cX1_differenceOf 56 = .ok (.aload_n 0, 1) := by decide +kernel
theorem dX1_differenceOf_57 : decode cX1_differenceOf 57 = .ok (.getfield 39, 3) := by decide +kernel
theorem dX1_differenceOf_60 : decode cX1_differenceOf 60 = .ok (.aload_n 0, 1) := by decide +kernel
theorem dX1_differenceOf_61 : decode cX1_differenceOf 61 = .ok (.getfield 15, 3) := by decide +kernel
theorem dX1_differenceOf_64 : decode cX1_differenceOf 64 = .ok (.invokevirtual 48, 3) := by decide +kernel
theorem dX1_differenceOf_67 : decode cX1_differenceOf 67 = .ok (.lstore 5, 2) := by decide +kernel
theorem dX1_differenceOf_69 : decode cX1_differenceOf 69 = .ok (.lload_n 3, 1) := by decide +kernel
theorem dX1_differenceOf_70 : decode cX1_differenceOf 70 = .ok (.ldc2_w 52, 3) := by decide +kernel
theorem dX1_differenceOf_73 : decode cX1_differenceOf 73 = .ok (.lcmp, 1) := by decide +kernel
theorem dX1_differenceOf_74 : decode cX1_differenceOf 74 = .ok (.ifCond .eq 12, 3) := by decide +kernel
theorem dX1_differenceOf_77 : decode cX1_differenceOf 77 = .ok (.lload 5, 2) := by decide +kernel
theorem dX1_differenceOf_79 : decode cX1_differenceOf 79 = .ok (.ldc2_w 52, 3) := by decide +kernel
theorem dX1_differenceOf_82 : decode cX1_differenceOf 82 = .ok (.lcmp, 1) := by decide +kernel
theorem dX1_differenceOf_83 : decode cX1_differenceOf 83 = .ok (.ifCond .ne 6, 3) := by decide +kernel
theorem dX1_differenceOf_86 : decode cX1_differenceOf 86 = .ok (.ldc 57, 2) := by decide +kernel
theorem dX1_differenceOf_88 : decode cX1_differenceOf 88 = .ok (.ireturn, 1) := by decide +kernel
theorem dX1_differenceOf_89 : decode cX1_differenceOf 89 = .ok (.ldc2_w 62, 3) := by decide +kernel
theorem dX1_differenceOf_92 : decode cX1_differenceOf 92 = .ok (.lload_n 3, 1) := by decide +kernel
theorem dX1_differenceOf_93 : decode cX1_differenceOf 93 = .ok (.lload 5, 2) := by decide +kernel
theorem dX1_differenceOf_95 : decode cX1_differenceOf 95 = .ok (.lsub, 1) := by decide +kernel
theorem dX1_differenceOf_96 : decode cX1_differenceOf 96 = .ok (.lmul, 1) := by decide +kernel
theorem dX1_differenceOf_97 : decode cX1_differenceOf 97 = .ok (.aload_n 0, 1) := by decide +kernel
theorem dX1_differenceOf_98 : decode cX1_differenceOf 98 = .ok (.getfield 15, 3) := by decide +kernel
theorem dX1_differenceOf_101 : decode cX1_differenceOf 101 = .ok (.invokestatic 64, 3) := by decide +kernel
theorem dX1_differenceOf_104 : decode cX1_differenceOf 104 = .ok (.l2i, 1) := by decide +kernel
theorem dX1_differenceOf_105 : decode cX1_differenceOf 105 = .ok (.ireturn, 1) := by decide +kernel
theorem dX2_init_0 : decode cX2_init 0 = .ok (.aload_n 0, 1) := by decide +kernel
theorem dX2_init_1 : decode cX2_init 1 = .ok (.invokespecial 1, 3) := by decide +kernel
theorem dX2_init_4 : decode cX2_init 4 = .ok (.aload_n 0, 1) := by decide +kernel
theorem dX2_init_5 : decode cX2_init 5 = .ok (.lconst 0, 1) := by decide +kernel
theorem dX2_init_6 : decode cX2_init 6 = .ok (.putfield 7, 3) := by decide +kernel
theorem dX2_init_9 : decode cX2_init 9 = .ok (.aload_n 0, 1) := by decide +kernel
theorem dX2_init_10 : decode cX2_init 10 = .ok (.lconst 1, 1) := by decide +kernel
theorem dX2_init_11 : decode cX2_init 11 = .ok (.putfield 13, 3) := by decide +kernel
theorem dX2_init_14 : decode cX2_init 14 = .ok (.return_, 1) := by decide +kernel
theorem dX2_become_0 : decode cX2_become 0 = .ok (.lload_n 1, 1) := by decide +kernel
theorem dX2_become_1 : decode cX2_become 1 = .ok (.lload_n 3, 1) := by decide +kernel
theorem dX2_become_2 : decode cX2_become 2 = .ok (.invokestatic 16, 3) := by decide +kernel
theorem dX2_become_5 : decode cX2_become 5 = .ok (.lstore 5, 2) := by decide +kernel
theorem dX2_become_7 : decode cX2_become 7 = .ok (.lload_n 3, 1) := by decide +kernel
theorem dX2_become_8 : decode cX2_become 8 = .ok (.lconst 0, 1) := by decide +kernel
theorem dX2_become_9 : decode cX2_become 9 = .ok (.lcmp, 1) := by decide +kernel
theorem dX2_become_10 : decode cX2_become 10 = .ok (.ifCond .eq 10, 3) := by decide +kernel
theorem dX2_become_13 : decode cX2_become 13 = .ok (.lload 5, 2) := by decide +kernel
theorem dX2_become_15 : decode cX2_become 15 = .ok (.lconst 0, 1) := by decide +kernel
theorem dX2_become_16 : decode cX2_become 16 = .ok (.lcmp, 1) := by decide +kernel
theorem dX2_become_17 : decode cX2_become 17 = .ok (.ifCond .ne 14, 3) := by decide +kernel
theorem dX2_become_20 : decode cX2_become 20 = .ok (.aload_n 0, 1) := by decide +kernel
theorem dX2_become_21 : decode cX2_become 21 = .ok (.lconst 0, 1) := by decide +kernel
theorem dX2_become_22 : decode cX2_become 22 = .ok (.putfield 7, 3) := by decide +kernel
theorem dX2_become_25 : decode cX2_become 25 = .ok (.aload_n 0, 1) := by decide +kernel
theorem dX2_become_26 : decode cX2_become 26 = .ok (.lconst 1, 1) := by decide +kernel
theorem dX2_become_27 : decode cX2_become 27 = .ok (.putfield 13, 3) := by decide +kernel
theorem dX2_become_30 : decode cX2_become 30 = .ok (.return_, 1) := by decide +kernel
theorem dX2_become_31 : decode cX2_become 31 = .ok (.lload_n 3, 1) := by decide +kernel
theorem dX2_become_32 : decode cX2_become 32 = .ok (.lconst 0, 1) := by decide +kernel
theorem dX2_become_33 : decode cX2_become 33 = .ok (.lcmp, 1) := by decide +kernel
theorem dX2_become_34 : decode cX2_become 34 = .ok (.ifCond .ge 9, 3) := by decide +kernel
theorem dX2_become_37 : decode cX2_become 37 = .ok (.lload 5, 2) := by decide +kernel
theorem dX2_become_39 : decode cX2_become 39 = .ok (.lneg, 1) := by decide +kernel
theorem dX2_become_40 : decode cX2_become 40 = .ok (.goto 5, 3) := by decide +kernel
theorem dX2_become_43 : decode cX2_become 43 = .ok (.lload 5, 2) := by decide +kernel
theorem dX2_become_45 : decode cX2_become 45 = .ok (.lstore 7, 2) := by decide +kernel
theorem dX2_become_47 : decode cX2_become 47 = .ok (.aload_n 0, 1) := by decide +kernel
theorem dX2_become_48 : decode cX2_become 48 = .ok (.lload_n 1, 1) := by decide +kernel
theorem dX2_become_49 : decode cX2_become 49 = .ok (.lload 7, 2) := by decide +kernel
theorem dX2_become_51 : decode cX2_become 51 = .ok (.ldiv, 1) := by decide +kernel
theorem dX2_become_52 : decode cX2_become 52 = .ok (.putfield 7, 3) := by decide +kernel
theorem dX2_become_55 : decode cX2_become 55 = .ok (.aload_n 0, 1) := by decide +kernel
theorem dX2_become_56 : decode cX2_become 56 = .ok (.lload_n 3, 1) := by decide +kernel
theorem dX2_become_57 : decode cX2_become 57 = .ok (.lload 7, 2) := by decide +kernel
theorem dX2_become_59 : decode cX2_become 59 = .ok (.ldiv, 1) := by decide +kernel
theorem dX2_become_60 : decode cX2_become 60 = .ok (.putfield 13, 3) := by decide +kernel
theorem dX2_become_63 : decode cX2_become 63 = .ok (.return_, 1) := by decide +kernel
theorem dX2_partOf_0 : decode cX2_partOf 0 = .ok (.iload_n 1, 1) := by decide +kernel
theorem dX2_partOf_1 : decode cX2_partOf 1 = .ok (.ifCond .ne 10, 3) := by decide +kernel
theorem dX2_partOf_4 : decode cX2_partOf 4 = .ok (.aload_n 0, 1) := by decide +kernel
theorem dX2_partOf_5 : decode cX2_partOf 5 = .ok (.getfield 7, 3) := by decide +kernel
theorem dX2_partOf_8 : decode cX2_partOf 8 = .ok (.goto 7, 3) := by decide +kernel
theorem dX2_partOf_11 : decode cX2_partOf 11 = .ok (.aload_n 0, 1) := by decide +kernel
theorem dX2_partOf_12 : decode cX2_partOf 12 = .ok (.getfield 13, 3) := by decide +kernel
theorem dX2_partOf_15 : decode cX2_partOf 15 = .ok (.lreturn, 1) := by decide +kernel
theorem dX2_roundedDown_0 : decode cX2_roundedDown 0 = .ok (.aload_n 0, 1) := by decide +kernel
theorem dX2_roundedDown_1 : decode cX2_roundedDown 1 = .ok (.getfield 13, 3) := by decide +kernel
theorem dX2_roundedDown_4 : decode cX2_roundedDown 4 = .ok (.lconst 0, 1) := by decide +kernel
theorem dX2_roundedDown_5 : decode cX2_roundedDown 5 = .ok (.lcmp, 1) := by decide +kernel
theorem dX2_roundedDown_6 : decode cX2_roundedDown 6 = .ok (.ifCond .le 17, 3) := by decide +kernel
theorem dX2_roundedDown_9 : decode cX2_roundedDown 9 = .ok (.aload_n 0, 1) := by decide +kernel
theorem dX2_roundedDown_10 : decode cX2_roundedDown 10 = .ok (.getfield 7, 3) := by decide +kernel
theorem dX2_roundedDown_13 : decode cX2_roundedDown 13 = .ok (.aload_n 0, 1) := by decide +kernel
theorem dX2_roundedDown_14 : decode cX2_roundedDown 14 = .ok (.getfield 13, 3) := by decide +kernel
theorem dX2_roundedDown_17 : decode cX2_roundedDown 17 = .ok (.invokestatic 20, 3) := by decide +kernel
theorem dX2_roundedDown_20 : decode cX2_roundedDown 20 = .ok (.goto 4, 3) := by decide +kernel
theorem dX2_roundedDown_23 : decode cX2_roundedDown 23 = .ok (.lconst 0, 1) := by decide +kernel
theorem dX2_roundedDown_24 : decode cX2_roundedDown 24 = .ok (.lreturn, 1) := by decide +kernel
theorem dX2_greatestShared_0 : decode cX2_greatestShared 0 = .ok (.lload_n 0, 1) := by decide +kernel
theorem dX2_greatestShared_1 : decode cX2_greatestShared 1 = .ok (.lconst 0, 1) := by decide +kernel
theorem dX2_greatestShared_2 : decode cX2_greatestShared 2 = .ok (.lcmp, 1) := by decide +kernel
theorem dX2_greatestShared_3 : decode cX2_greatestShared 3 = .ok (.ifCond .ge 8, 3) := by decide +kernel
theorem dX2_greatestShared_6 : decode cX2_greatestShared 6 = .ok (.lload_n 0, 1) := by decide +kernel
theorem dX2_greatestShared_7 : decode cX2_greatestShared 7 = .ok (.lneg, 1) := by decide +kernel
theorem dX2_greatestShared_8 : decode cX2_greatestShared 8 = .ok (.goto 4, 3) := by decide +kernel
theorem dX2_greatestShared_11 : decode cX2_greatestShared 11 = .ok (.lload_n 0, 1) := by decide +kernel
theorem dX2_greatestShared_12 : decode cX2_greatestShared 12 = .ok (.lstore 4, 2) := by decide +kernel
theorem dX2_greatestShared_14 : decode cX2_greatestShared 14 = .ok (.lload_n 2, 1) := by decide +kernel
theorem dX2_greatestShared_15 : decode cX2_greatestShared 15 = .ok (.lconst 0, 1) := by decide +kernel
theorem dX2_greatestShared_16 : decode cX2_greatestShared 16 = .ok (.lcmp, 1) := by decide +kernel
theorem dX2_greatestShared_17 : decode cX2_greatestShared 17 = .ok (.ifCond .ge 8, 3) := by decide +kernel
theorem dX2_greatestShared_20 : decode cX2_greatestShared 20 = .ok (.lload_n 2, 1) := by decide +kernel
theorem dX2_greatestShared_21 : decode cX2_greatestShared 21 = .ok (.lneg, 1) := by decide +kernel
theorem dX2_greatestShared_22 : decode cX2_greatestShared 22 = .ok (.goto 4, 3) := by decide +kernel
theorem dX2_greatestShared_25 : decode cX2_greatestShared 25 = .ok (.lload_n 2, 1) := by decide +kernel
theorem dX2_greatestShared_26 : decode cX2_greatestShared 26 = .ok (.lstore 6, 2) := by decide +kernel
theorem dX2_greatestShared_28 : decode cX2_greatestShared 28 = .ok (.iconst 0, 1) := by decide +kernel
theorem dX2_greatestShared_29 : decode cX2_greatestShared 29 = .ok (.istore 8, 2) := by decide +kernel
theorem dX2_greatestShared_31 : decode cX2_greatestShared 31 = .ok (.iload 8, 2) := by decide +kernel
theorem dX2_greatestShared_33 : decode cX2_greatestShared 33 = .ok (.bipush 100, 2) := by decide +kernel
theorem dX2_greatestShared_35 : decode cX2_greatestShared 35 = .ok (.if_icmp .ge 31, 3) := by decide +kernel
theorem dX2_greatestShared_38 : decode cX2_greatestShared 38 = .ok (.lload 6, 2) := by decide +kernel
theorem dX2_greatestShared_40 : decode cX2_greatestShared 40 = .ok (.lconst 0, 1) := by decide +kernel
theorem dX2_greatestShared_41 : decode cX2_greatestShared 41 = .ok (.lcmp, 1) := by decide +kernel
theorem dX2_greatestShared_42 : decode cX2_greatestShared 42 = .ok (.ifCond .eq 24, 3) := by decide +kernel
theorem dX2_greatestShared_45 : decode cX2_greatestShared 45 = .ok (.lload 4, 2) := by decide +kernel
theorem dX2_greatestShared_47 : decode cX2_greatestShared 47 = .ok (.lload 6, 2) := by decide +kernel
theorem dX2_greatestShared_49 : decode cX2_greatestShared 49 = .ok (.lrem, 1) := by decide +kernel
theorem dX2_greatestShared_50 : decode cX2_greatestShared 50 = .ok (.lstore 9, 2) := by decide +kernel
theorem dX2_greatestShared_52 : decode cX2_greatestShared 52 = .ok (.lload 6, 2) := by decide +kernel
theorem dX2_greatestShared_54 : decode cX2_greatestShared 54 = .ok (.lstore 4, 2) := by decide +kernel
theorem dX2_greatestShared_56 : decode cX2_greatestShared 56 = .ok (.lload 9, 2) := by decide +kernel
theorem dX2_greatestShared_58 : decode cX2_greatestShared 58 = .ok (.lstore 6, 2) := by decide +kernel
theorem dX2_greatestShared_60 : decode cX2_greatestShared 60 = .ok (.iinc 8 1, 3) := by decide +kernel
theorem dX2_greatestShared_63 : decode cX2_greatestShared 63 = .ok (.goto (-32), 3) := by decide +kernel
theorem dX2_greatestShared_66 : decode cX2_greatestShared 66 = .ok (.lload 4, 2) := by decide +kernel
theorem dX2_greatestShared_68 : decode cX2_greatestShared 68 = .ok (.lreturn, 1) := by decide +kernel
theorem dX3_init_0 : decode cX3_init 0 = .ok (.aload_n 0, 1) := by decide +kernel
theorem dX3_init_1 : decode cX3_init 1 = .ok (.invokespecial 3, 3) := by decide +kernel
theorem dX3_init_4 : decode cX3_init 4 = .ok (.aload_n 0, 1) := by decide +kernel
theorem dX3_init_5 : decode cX3_init 5 = .ok (.bipush 6, 2) := by decide +kernel
theorem dX3_init_7 : decode cX3_init 7 = .ok (.newarray .int, 2) := by decide +kernel
theorem dX3_init_9 : decode cX3_init 9 = .ok (.putfield 9, 3) := by decide +kernel
theorem dX3_init_12 : decode cX3_init 12 = .ok (.aload_n 0, 1) := by decide +kernel
theorem dX3_init_13 : decode cX3_init 13 = .ok (.iconst 0, 1) := by decide +kernel
theorem dX3_init_14 : decode cX3_init 14 = .ok (.putfield 15, 3) := by decide +kernel
theorem dX3_init_17 : decode cX3_init 17 = .ok (.return_, 1) := by decide +kernel
theorem dX3_has_0 : decode cX3_has 0 = .ok (.iload_n 1, 1) := by decide +kernel
theorem dX3_has_1 : decode cX3_has 1 = .ok (.ifCond .lt 15, 3) := by decide +kernel
theorem dX3_has_4 : decode cX3_has 4 = .ok (.iload_n 1, 1) := by decide +kernel
theorem dX3_has_5 : decode cX3_has 5 = .ok (.aload_n 0, 1) := by decide +kernel
theorem dX3_has_6 : decode cX3_has 6 = .ok (.getfield 15, 3) := by decide +kernel
theorem dX3_has_9 : decode cX3_has 9 = .ok (.if_icmp .ge 7, 3) := by decide +kernel
theorem dX3_has_12 : decode cX3_has 12 = .ok (.iconst 1, 1) := by decide +kernel
theorem dX3_has_13 : decode cX3_has 13 = .ok (.goto 4, 3) := by decide +kernel
theorem dX3_has_16 : decode cX3_has 16 = .ok (.iconst 0, 1) := by decide +kernel
theorem dX3_has_17 : decode cX3_has 17 = .ok (.ireturn, 1) := by decide +kernel
theorem dX3_distance_0 : decode cX3_distance 0 = .ok (.aload_n 0, 1) := by decide +kernel
theorem dX3_distance_1 : decode cX3_distance 1 = .ok (.getfield 9, 3) := by decide +kernel
theorem dX3_distance_4 : decode cX3_distance 4 = .ok (.iload_n 1, 1) := by decide +kernel
theorem dX3_distance_5 : decode cX3_distance 5 = .ok (.iaload, 1) := by decide +kernel
theorem dX3_distance_6 : decode cX3_distance 6 = .ok (.istore_n 3, 1) := by decide +kernel
theorem dX3_distance_7 : decode cX3_distance 7 = .ok (.iload_n 3, 1) := by decide +kernel
theorem dX3_distance_8 : decode cX3_distance 8 = .ok (.ifCond .gt 5, 3) := by decide +kernel
theorem dX3_distance_11 : decode cX3_distance 11 = .ok (.lconst 0, 1) := by decide +kernel
theorem dX3_distance_12 : decode cX3_distance 12 = .ok (.lreturn, 1) := by decide +kernel
theorem dX3_distance_13 : decode cX3_distance 13 = .ok (.iload_n 2, 1) := by decide +kernel
theorem dX3_distance_14 : decode cX3_distance 14 = .ok (.iload_n 3, 1) := by decide +kernel
theorem dX3_distance_15 : decode cX3_distance 15 = .ok (.irem, 1) := by decide +kernel
theorem dX3_distance_16 : decode cX3_distance 16 = .ok (.istore 4, 2) := by decide +kernel
theorem dX3_distance_18 : decode cX3_distance 18 = .ok (.iload 4, 2) := by decide +kernel
theorem dX3_distance_20 : decode cX3_distance 20 = .ok (.iload_n 3, 1) := by decide +kernel
theorem dX3_distance_21 : decode cX3_distance 21 = .ok (.iload 4, 2) := by decide +kernel
theorem dX3_distance_23 : decode cX3_distance 23 = .ok (.isub, 1) := by decide +kernel
theorem dX3_distance_24 : decode cX3_distance 24 = .ok (.invokestatic 19, 3) := by decide +kernel
theorem dX3_distance_27 : decode cX3_distance 27 = .ok (.i2l, 1) := by decide +kernel
theorem dX3_distance_28 : decode cX3_distance 28 = .ok (.lreturn, 1) := by decide +kernel
theorem dX3_areToldApart_0 : decode cX3_areToldApart 0 = .ok (.aload_n 0, 1) := by decide +kernel
theorem dX3_areToldApart_1 : decode cX3_areToldApart 1 = .ok (.iload_n 1, 1) := by decide +kernel
theorem dX3_areToldApart_2 : decode cX3_areToldApart 2 = .ok (.iload_n 3, 1) := by decide +kernel
theorem dX3_areToldApart_3 : decode cX3_areToldApart 3 = .ok (.invokevirtual 25, 3) := by decide +kernel
theorem dX3_areToldApart_6 : decode cX3_areToldApart 6 = .ok (.aload_n 0, 1) := by decide +kernel
theorem dX3_areToldApart_7 : decode cX3_areToldApart 7 = .ok (.getfield 9, 3) := by decide +kernel
theorem dX3_areToldApart_10 : decode cX3_areToldApart 10 = .ok (.iload_n 2, 1) := by decide +kernel
theorem dX3_areToldApart_11 : decode cX3_areToldApart 11 = .ok (.iaload, 1) := by decide +kernel
theorem dX3_areToldApart_12 : decode cX3_areToldApart 12 = .ok (.i2l, 1) := by decide +kernel
theorem dX3_areToldApart_13 : decode cX3_areToldApart 13 = .ok (.lmul, 1) := by decide +kernel
theorem dX3_areToldApart_14 : decode cX3_areToldApart 14 = .ok (.lstore 5, 2) := by decide +kernel
theorem dX3_areToldApart_16 : decode cX3_areToldApart 16 = .ok (.aload_n 0, 1) := by decide +kernel
theorem dX3_areToldApart_17 : decode cX3_areToldApart 17 = .ok (.iload_n 2, 1) := by decide +kernel
theorem dX3_areToldApart_18 : decode cX3_areToldApart 18 = .ok (.iload_n 3, 1) := by decide +kernel
theorem dX3_areToldApart_19 : decode cX3_areToldApart 19 = .ok (.invokevirtual 25, 3) := by decide +kernel
theorem dX3_areToldApart_22 : decode cX3_areToldApart 22 = .ok (.aload_n 0, 1) := by decide +kernel
theorem dX3_areToldApart_23 : decode cX3_areToldApart 23 = .ok (.getfield 9, 3) := by decide +kernel
theorem dX3_areToldApart_26 : decode cX3_areToldApart 26 = .ok (.iload_n 1, 1) := by decide +kernel
theorem dX3_areToldApart_27 : decode cX3_areToldApart 27 = .ok (.iaload, 1) := by decide +kernel
theorem dX3_areToldApart_28 : decode cX3_areToldApart 28 = .ok (.i2l, 1) := by decide +kernel
theorem dX3_areToldApart_29 : decode cX3_areToldApart 29 = .ok (.lmul, 1) := by decide +kernel
theorem dX3_areToldApart_30 : decode cX3_areToldApart 30 = .ok (.lstore 7, 2) := by decide +kernel
theorem dX3_areToldApart_32 : decode cX3_areToldApart 32 = .ok (.ldc2_w 29, 3) := by decide +kernel
theorem dX3_areToldApart_35 : decode cX3_areToldApart 35 = .ok (.iload 4, 2) := by decide +kernel
theorem dX3_areToldApart_37 : decode cX3_areToldApart 37 = .ok (.i2l, 1) := by decide +kernel
theorem dX3_areToldApart_38 : decode cX3_areToldApart 38 = .ok (.lmul, 1) := by decide +kernel
theorem dX3_areToldApart_39 : decode cX3_areToldApart 39 = .ok (.lstore 9, 2) := by decide +kernel
theorem dX3_areToldApart_41 : decode cX3_areToldApart 41 = .ok (.lload 9, 2) := by decide +kernel
theorem dX3_areToldApart_43 : decode cX3_areToldApart 43 = .ok (.lconst 0, 1) := by decide +kernel
theorem dX3_areToldApart_44 : decode cX3_areToldApart 44 = .ok (.lcmp, 1) := by decide +kernel
theorem dX3_areToldApart_45 : decode cX3_areToldApart 45 = .ok (.ifCond .gt 5, 3) := by decide +kernel
theorem dX3_areToldApart_48 : decode cX3_areToldApart 48 = .ok (.iconst 0, 1) := by decide +kernel
theorem dX3_areToldApart_49 : decode cX3_areToldApart 49 = .ok (.ireturn, 1) := by decide +kernel
theorem dX3_areToldApart_50 : decode cX3_areToldApart 50 = .ok (.aload_n 0, 1) := by decide +kernel
theorem dX3_areToldApart_51 : decode cX3_areToldApart 51 = .ok (.getfield 9, 3) := by decide +kernel
theorem dX3_areToldApart_54 : decode cX3_areToldApart 54 = .ok (.iload_n 1, 1) := by decide +kernel
theorem dX3_areToldApart_55 : decode cX3_areToldApart 55 = .ok (.iaload, 1) := by decide +kernel
theorem dX3_areToldApart_56 : decode cX3_areToldApart 56 = .ok (.i2l, 1) := by decide +kernel
theorem dX3_areToldApart_57 : decode cX3_areToldApart 57 = .ok (.aload_n 0, 1) := by decide +kernel
theorem dX3_areToldApart_58 : decode cX3_areToldApart 58 = .ok (.getfield 9, 3) := by decide +kernel
theorem dX3_areToldApart_61 : decode cX3_areToldApart 61 = .ok (.iload_n 2, 1) := by decide +kernel
theorem dX3_areToldApart_62 : decode cX3_areToldApart 62 = .ok (.iaload, 1) := by decide +kernel
theorem dX3_areToldApart_63 : decode cX3_areToldApart 63 = .ok (.i2l, 1) := by decide +kernel
theorem dX3_areToldApart_64 : decode cX3_areToldApart 64 = .ok (.lmul, 1) := by decide +kernel
theorem dX3_areToldApart_65 : decode cX3_areToldApart 65 = .ok (.iload_n 3, 1) := by decide +kernel
theorem dX3_areToldApart_66 : decode cX3_areToldApart 66 = .ok (.i2l, 1) := by decide +kernel
theorem dX3_areToldApart_67 : decode cX3_areToldApart 67 = .ok (.lmul, 1) := by decide +kernel
theorem dX3_areToldApart_68 : decode cX3_areToldApart 68 = .ok (.lstore 11, 2) := by decide +kernel
theorem dX3_areToldApart_70 : decode cX3_areToldApart 70 = .ok (.lload 5, 2) := by decide +kernel
theorem dX3_areToldApart_72 : decode cX3_areToldApart 72 = .ok (.lload 7, 2) := by decide +kernel
theorem dX3_areToldApart_74 : decode cX3_areToldApart 74 = .ok (.lsub, 1) := by decide +kernel
theorem dX3_areToldApart_75 : decode cX3_areToldApart 75 = .ok (.invokestatic 31, 3) := by decide +kernel
theorem dX3_areToldApart_78 : decode cX3_areToldApart 78 = .ok (.lload 11, 2) := by decide +kernel
theorem dX3_areToldApart_80 : decode cX3_areToldApart 80 = .ok (.lneg, 1) := by decide +kernel
theorem dX3_areToldApart_81 : decode cX3_areToldApart 81 = .ok (.lload 9, 2) := by decide +kernel
theorem dX3_areToldApart_83 : decode cX3_areToldApart 83 = .ok (.invokestatic 35, 3) := by decide +kernel
theorem dX3_areToldApart_86 : decode cX3_areToldApart 86 = .ok (.lneg, 1) := by decide +kernel
theorem dX3_areToldApart_87 : decode cX3_areToldApart 87 = .ok (.lcmp, 1) := by decide +kernel
theorem dX3_areToldApart_88 : decode cX3_areToldApart 88 = .ok (.ifCond .lt 7, 3) := by decide +kernel
theorem dX3_areToldApart_91 : decode cX3_areToldApart 91 = .ok (.iconst 1, 1) := by decide +kernel
theorem dX3_areToldApart_92 : decode cX3_areToldApart 92 = .ok (.goto 4, 3) := by decide +kernel
theorem dX3_areToldApart_95 : decode cX3_areToldApart 95 = .ok (.iconst 0, 1) := by decide +kernel
theorem dX3_areToldApart_96 : decode cX3_areToldApart 96 = .ok (.ireturn, 1) := by decide +kernel
theorem dX4_init_0 : decode cX4_init 0 = .ok (.aload_n 0, 1) := by decide +kernel
theorem dX4_init_1 : decode cX4_init 1 = .ok (.invokespecial 3, 3) := by decide +kernel
theorem dX4_init_4 : decode cX4_init 4 = .ok (.aload_n 0, 1) := by decide +kernel
theorem dX4_init_5 : decode cX4_init 5 = .ok (.bipush 9, 2) := by decide +kernel
theorem dX4_init_7 : decode cX4_init 7 = .ok (.newarray .int, 2) := by decide +kernel
theorem dX4_init_9 : decode cX4_init 9 = .ok (.putfield 9, 3) := by decide +kernel
theorem dX4_init_12 : decode cX4_init 12 = .ok (.iconst 0, 1) := by decide +kernel
theorem dX4_init_13 : decode cX4_init 13 = .ok (.istore_n 1, 1) := by decide +kernel
theorem dX4_init_14 : decode cX4_init 14 = .ok (.iload_n 1, 1) := by decide +kernel
theorem dX4_init_15 : decode cX4_init 15 = .ok (.bipush 9, 2) := by decide +kernel
theorem dX4_init_17 : decode cX4_init 17 = .ok (.if_icmp .ge 17, 3) := by decide +kernel
theorem dX4_init_20 : decode cX4_init 20 = .ok (.aload_n 0, 1) := by decide +kernel
theorem dX4_init_21 : decode cX4_init 21 = .ok (.getfield 9, 3) := by decide +kernel
theorem dX4_init_24 : decode cX4_init 24 = .ok (.iload_n 1, 1) := by decide +kernel
theorem dX4_init_25 : decode cX4_init 25 = .ok (.ldc 15, 2) := by decide +kernel
theorem dX4_init_27 : decode cX4_init 27 = .ok (.iastore, 1) := by decide +kernel
theorem dX4_init_28 : decode cX4_init 28 = .ok (.iinc 1 1, 3) := by decide +kernel
theorem dX4_init_31 : decode cX4_init 31 = .ok (.goto (-17), 3) := by decide +kernel
theorem dX4_init_34 : decode cX4_init 34 = .ok (.return_, 1) := by decide +kernel
theorem dX4_runFrom_0 : decode cX4_runFrom 0 = .ok (.aload_n 0, 1) := by decide +kernel
theorem dX4_runFrom_1 : decode cX4_runFrom 1 = .ok (.iload_n 1, 1) := by decide +kernel
theorem dX4_runFrom_2 : decode cX4_runFrom 2 = .ok (.putfield 16, 3) := by decide +kernel
theorem dX4_runFrom_5 : decode cX4_runFrom 5 = .ok (.aload_n 0, 1) := by decide +kernel
theorem dX4_runFrom_6 : decode cX4_runFrom 6 = .ok (.iload_n 2, 1) := by decide +kernel
theorem dX4_runFrom_7 : decode cX4_runFrom 7 = .ok (.putfield 20, 3) := by decide +kernel
theorem dX4_runFrom_10 : decode cX4_runFrom 10 = .ok (.aload_n 0, 1) := by decide +kernel
theorem dX4_runFrom_11 : decode cX4_runFrom 11 = .ok (.iload_n 3, 1) := by decide +kernel
theorem dX4_runFrom_12 : decode cX4_runFrom 12 = .ok (.putfield 23, 3) := by decide +kernel
theorem dX4_runFrom_15 : decode cX4_runFrom 15 = .ok (.return_, 1) := by decide +kernel
theorem dX4_runTo_0 : decode cX4_runTo 0 = .ok (.aload_n 0, 1) := by decide +kernel
theorem dX4_runTo_1 : decode cX4_runTo 1 = .ok (.iload_n 1, 1) := by decide +kernel
theorem dX4_runTo_2 : decode cX4_runTo 2 = .ok (.aload_n 0, 1) := by decide +kernel
theorem dX4_runTo_3 : decode cX4_runTo 3 = .ok (.getfield 16, 3) := by decide +kernel
theorem dX4_runTo_6 : decode cX4_runTo 6 = .ok (.isub, 1) := by decide +kernel
theorem dX4_runTo_7 : decode cX4_runTo 7 = .ok (.putfield 26, 3) := by decide +kernel
theorem dX4_runTo_10 : decode cX4_runTo 10 = .ok (.aload_n 0, 1) := by decide +kernel
theorem dX4_runTo_11 : decode cX4_runTo 11 = .ok (.iload_n 2, 1) := by decide +kernel
theorem dX4_runTo_12 : decode cX4_runTo 12 = .ok (.aload_n 0, 1) := by decide +kernel
theorem dX4_runTo_13 : decode cX4_runTo 13 = .ok (.getfield 20, 3) := by decide +kernel
theorem dX4_runTo_16 : decode cX4_runTo 16 = .ok (.isub, 1) := by decide +kernel
theorem dX4_runTo_17 : decode cX4_runTo 17 = .ok (.putfield 29, 3) := by decide +kernel
theorem dX4_runTo_20 : decode cX4_runTo 20 = .ok (.aload_n 0, 1) := by decide +kernel
theorem dX4_runTo_21 : decode cX4_runTo 21 = .ok (.iload_n 3, 1) := by decide +kernel
theorem dX4_runTo_22 : decode cX4_runTo 22 = .ok (.aload_n 0, 1) := by decide +kernel
theorem dX4_runTo_23 : decode cX4_runTo 23 = .ok (.getfield 23, 3) := by decide +kernel
theorem dX4_runTo_26 : decode cX4_runTo 26 = .ok (.isub, 1) := by decide +kernel
theorem dX4_runTo_27 : decode cX4_runTo 27 = .ok (.putfield 32, 3) := by decide +kernel
theorem dX4_runTo_30 : decode cX4_runTo 30 = .ok (.return_, 1) := by decide +kernel
theorem dX4_heightTimesBelow_0 : decode cX4_heightTimesBelow 0 = .ok (.lload_n 3, 1) := by decide +kernel
theorem dX4_heightTimesBelow_1 : decode cX4_heightTimesBelow 1 = .ok (.lconst 0, 1) := by decide +kernel
theorem dX4_heightTimesBelow_2 : decode cX4_heightTimesBelow 2 = .ok (.lcmp, 1) := by decide +kernel
theorem dX4_heightTimesBelow_3 : decode cX4_heightTimesBelow 3 = .ok (.ifCond .le 15, 3) := by decide +kernel
theorem dX4_heightTimesBelow_6 : decode cX4_heightTimesBelow 6 = .ok (.lload_n 1, 1) := by decide +kernel
theorem dX4_heightTimesBelow_7 : decode cX4_heightTimesBelow 7 = .ok (.lconst 0, 1) := by decide +kernel
theorem dX4_heightTimesBelow_8 : decode cX4_heightTimesBelow 8 = .ok (.lcmp, 1) := by decide +kernel
theorem dX4_heightTimesBelow_9 : decode cX4_heightTimesBelow 9 = .ok (.ifCond .lt 9, 3) := by decide +kernel
theorem dX4_heightTimesBelow_12 : decode cX4_heightTimesBelow 12 = .ok (.lload_n 1, 1) := by decide +kernel
theorem dX4_heightTimesBelow_13 : decode cX4_heightTimesBelow 13 = .ok (.lload_n 3, 1) := by decide +kernel
theorem dX4_heightTimesBelow_14 : decode cX4_heightTimesBelow 14 = .ok (.lcmp, 1) := by decide +kernel
theorem dX4_heightTimesBelow_15 : decode cX4_heightTimesBelow 15 = .ok (.ifCond .le 7, 3) := by decide +kernel
theorem dX4_heightTimesBelow_18 : decode cX4_heightTimesBelow 18 = .ok (.ldc2_w 35, 3) := by decide +kernel
theorem dX4_heightTimesBelow_21 : decode cX4_heightTimesBelow 21 = .ok (.lreturn, 1) := by decide +kernel
theorem dX4_heightTimesBelow_22 : decode cX4_heightTimesBelow 22 = .ok (.ldc2_w 37, 3) := by decide +kernel
theorem dX4_heightTimesBelow_25 : decode cX4_heightTimesBelow 25 = .ok (.lload_n 1, 1) := by decide +kernel
theorem dX4_heightTimesBelow_26 : decode cX4_heightTimesBelow 26 = .ok (.lmul, 1) := by decide +kernel
theorem dX4_heightTimesBelow_27 : decode cX4_heightTimesBelow 27 = .ok (.lload_n 3, 1) := by decide +kernel
theorem dX4_heightTimesBelow_28 : decode cX4_heightTimesBelow 28 = .ok (.ldiv, 1) := by decide +kernel
theorem dX4_heightTimesBelow_29 : decode cX4_heightTimesBelow 29 = .ok (.l2i, 1) := by decide +kernel
theorem dX4_heightTimesBelow_30 : decode cX4_heightTimesBelow 30 = .ok (.istore 5, 2) := by decide +kernel
theorem dX4_heightTimesBelow_32 : decode cX4_heightTimesBelow 32 = .ok (.ldc2_w 37, 3) := by decide +kernel
theorem dX4_heightTimesBelow_35 : decode cX4_heightTimesBelow 35 = .ok (.lload_n 1, 1) := by decide +kernel
theorem dX4_heightTimesBelow_36 : decode cX4_heightTimesBelow 36 = .ok (.lmul, 1) := by decide +kernel
theorem dX4_heightTimesBelow_37 : decode cX4_heightTimesBelow 37 = .ok (.iload 5, 2) := by decide +kernel
theorem dX4_heightTimesBelow_39 : decode cX4_heightTimesBelow 39 = .ok (.i2l, 1) := by decide +kernel
theorem dX4_heightTimesBelow_40 : decode cX4_heightTimesBelow 40 = .ok (.lload_n 3, 1) := by decide +kernel
theorem dX4_heightTimesBelow_41 : decode cX4_heightTimesBelow 41 = .ok (.lmul, 1) := by decide +kernel
theorem dX4_heightTimesBelow_42 : decode cX4_heightTimesBelow 42 = .ok (.lsub, 1) := by decide +kernel
theorem dX4_heightTimesBelow_43 : decode cX4_heightTimesBelow 43 = .ok (.lstore 6, 2) := by decide +kernel
theorem dX4_heightTimesBelow_45 : decode cX4_heightTimesBelow 45 = .ok (.aload_n 0, 1) := by decide +kernel
theorem dX4_heightTimesBelow_46 : decode cX4_heightTimesBelow 46 = .ok (.getfield 9, 3) := by decide +kernel
theorem dX4_heightTimesBelow_49 : decode cX4_heightTimesBelow 49 = .ok (.iload 5, 2) := by decide +kernel
theorem dX4_heightTimesBelow_51 : decode cX4_heightTimesBelow 51 = .ok (.iaload, 1) := by decide +kernel
theorem dX4_heightTimesBelow_52 : decode cX4_heightTimesBelow 52 = .ok (.ldc 15, 2) := by decide +kernel
theorem dX4_heightTimesBelow_54 : decode cX4_heightTimesBelow 54 = .ok (.if_icmp .ne 7, 3) := by decide +kernel
theorem dX4_heightTimesBelow_57 : decode cX4_heightTimesBelow 57 = .ok (.ldc2_w 35, 3) := by decide +kernel
theorem dX4_heightTimesBelow_60 : decode cX4_heightTimesBelow 60 = .ok (.lreturn, 1) := by decide +kernel
theorem dX4_heightTimesBelow_61 : decode cX4_heightTimesBelow 61 = .ok (.lload 6, 2) := by decide +kernel
theorem dX4_heightTimesBelow_63 : decode cX4_heightTimesBelow 63 = .ok (.lconst 0, 1) := by decide +kernel
theorem dX4_heightTimesBelow_64 : decode cX4_heightTimesBelow 64 = .ok (.lcmp, 1) := by decide +kernel
theorem dX4_heightTimesBelow_65 : decode cX4_heightTimesBelow 65 = .ok (.ifCond .eq 10, 3) := by decide +kernel
theorem dX4_heightTimesBelow_68 : decode cX4_heightTimesBelow 68 = .ok (.iload 5, 2) := by decide +kernel
theorem dX4_heightTimesBelow_70 : decode cX4_heightTimesBelow 70 = .ok (.bipush 8, 2) := by decide +kernel
theorem dX4_heightTimesBelow_72 : decode cX4_heightTimesBelow 72 = .ok (.if_icmp .lt 14, 3) := by decide +kernel
theorem dX4_heightTimesBelow_75 : decode cX4_heightTimesBelow 75 = .ok (.aload_n 0, 1) := by decide +kernel
theorem dX4_heightTimesBelow_76 : decode cX4_heightTimesBelow 76 = .ok (.getfield 9, 3) := by decide +kernel
theorem dX4_heightTimesBelow_79 : decode cX4_heightTimesBelow 79 = .ok (.iload 5, 2) := by decide +kernel
theorem dX4_heightTimesBelow_81 : decode cX4_heightTimesBelow 81 = .ok (.iaload, 1) := by decide +kernel
theorem dX4_heightTimesBelow_82 : decode cX4_heightTimesBelow 82 = .ok (.i2l, 1) := by decide +kernel
theorem dX4_heightTimesBelow_83 : decode cX4_heightTimesBelow 83 = .ok (.lload_n 3, 1) := by decide +kernel
theorem dX4_heightTimesBelow_84 : decode cX4_heightTimesBelow 84 = .ok (.lmul, 1) := by decide +kernel
theorem dX4_heightTimesBelow_85 : decode cX4_heightTimesBelow 85 = .ok (.lreturn, 1) := by decide +kernel
theorem dX4_heightTimesBelow_86 : decode cX4_heightTimesBelow 86 = .ok (.aload_n 0, 1) := by decide +kernel
theorem dX4_heightTimesBelow_87 : decode cX4_heightTimesBelow 87 = .ok (.getfield 9, 3) := by decide +kernel
theorem dX4_heightTimesBelow_90 : decode cX4_heightTimesBelow 90 = .ok (.iload 5, 2) := by decide +kernel
theorem dX4_heightTimesBelow_92 : decode cX4_heightTimesBelow 92 = .ok (.iconst 1, 1) := by decide +kernel
theorem dX4_heightTimesBelow_93 : decode cX4_heightTimesBelow 93 = .ok (.iadd, 1) := by decide +kernel
theorem dX4_heightTimesBelow_94 : decode cX4_heightTimesBelow 94 = .ok (.iaload, 1) := by decide +kernel
theorem dX4_heightTimesBelow_95 : decode cX4_heightTimesBelow 95 = .ok (.ldc 15, 2) := by decide +kernel
theorem dX4_heightTimesBelow_97 : decode cX4_heightTimesBelow 97 = .ok (.if_icmp .ne 7, 3) := by decide +kernel
theorem dX4_heightTimesBelow_100 : decode cX4_heightTimesBelow 100 = .ok (.ldc2_w 35, 3) := by decide +kernel
theorem dX4_heightTimesBelow_103 : decode cX4_heightTimesBelow 103 = .ok (.lreturn, 1) := by decide +kernel
theorem dX4_heightTimesBelow_104 : decode cX4_heightTimesBelow 104 = .ok (.aload_n 0, 1) := by decide +kernel
theorem dX4_heightTimesBelow_105 : decode cX4_heightTimesBelow 105 = .ok (.getfield 9, 3) := by decide +kernel
theorem dX4_heightTimesBelow_108 : decode cX4_heightTimesBelow 108 = .ok (.iload 5, 2) := by decide +kernel
theorem dX4_heightTimesBelow_110 : decode cX4_heightTimesBelow 110 = .ok (.iaload, 1) := by decide +kernel
theorem dX4_heightTimesBelow_111 : decode cX4_heightTimesBelow 111 = .ok (.i2l, 1) := by decide +kernel
theorem dX4_heightTimesBelow_112 : decode cX4_heightTimesBelow 112 = .ok (.lload_n 3, 1) := by decide +kernel
theorem dX4_heightTimesBelow_113 : decode cX4_heightTimesBelow 113 = .ok (.lmul, 1) := by decide +kernel
theorem dX4_heightTimesBelow_114 : decode cX4_heightTimesBelow 114 = .ok (.aload_n 0, 1) := by decide +kernel
theorem dX4_heightTimesBelow_115 : decode cX4_heightTimesBelow 115 = .ok (.getfield 9, 3) := by decide +kernel
theorem dX4_heightTimesBelow_118 : decode cX4_heightTimesBelow 118 = .ok (.iload 5, 2) := by decide +kernel
theorem dX4_heightTimesBelow_120 : decode cX4_heightTimesBelow 120 = .ok (.iconst 1, 1) := by decide +kernel
theorem dX4_heightTimesBelow_121 : decode cX4_heightTimesBelow 121 = .ok (.iadd, 1) := by decide +kernel
theorem dX4_heightTimesBelow_122 : decode cX4_heightTimesBelow 122 = .ok (.iaload, 1) := by decide +kernel
theorem dX4_heightTimesBelow_123 : decode cX4_heightTimesBelow 123 = .ok (.aload_n 0, 1) := by decide +kernel
theorem dX4_heightTimesBelow_124 : decode cX4_heightTimesBelow 124 = .ok (.getfield 9, 3) := by decide +kernel
theorem dX4_heightTimesBelow_127 : decode cX4_heightTimesBelow 127 = .ok (.iload 5, 2) := by decide +kernel
theorem dX4_heightTimesBelow_129 : decode cX4_heightTimesBelow 129 = .ok (.iaload, 1) := by decide +kernel
theorem dX4_heightTimesBelow_130 : decode cX4_heightTimesBelow 130 = .ok (.isub, 1) := by decide +kernel
theorem dX4_heightTimesBelow_131 : decode cX4_heightTimesBelow 131 = .ok (.i2l, 1) := by decide +kernel
theorem dX4_heightTimesBelow_132 : decode cX4_heightTimesBelow 132 = .ok (.lload 6, 2) := by decide +kernel
theorem dX4_heightTimesBelow_134 : decode cX4_heightTimesBelow 134 = .ok (.lmul, 1) := by decide +kernel
theorem dX4_heightTimesBelow_135 : decode cX4_heightTimesBelow 135 = .ok (.ladd, 1) := by decide +kernel
theorem dX4_heightTimesBelow_136 : decode cX4_heightTimesBelow 136 = .ok (.lreturn, 1) := by decide +kernel
theorem dX4_readingsIn_0 : decode cX4_readingsIn 0 = .ok (.iconst 0, 1) := by decide +kernel
theorem dX4_readingsIn_1 : decode cX4_readingsIn 1 = .ok (.istore 4, 2) := by decide +kernel
theorem dX4_readingsIn_3 : decode cX4_readingsIn 3 = .ok (.iconst 0, 1) := by decide +kernel
theorem dX4_readingsIn_4 : decode cX4_readingsIn 4 = .ok (.istore 5, 2) := by decide +kernel
theorem dX4_readingsIn_6 : decode cX4_readingsIn 6 = .ok (.iload 5, 2) := by decide +kernel
theorem dX4_readingsIn_8 : decode cX4_readingsIn 8 = .ok (.bipush 9, 2) := by decide +kernel
theorem dX4_readingsIn_10 : decode cX4_readingsIn 10 = .ok (.if_icmp .ge 36, 3) := by decide +kernel
theorem dX4_readingsIn_13 : decode cX4_readingsIn 13 = .ok (.aload_n 0, 1) := by decide +kernel
theorem dX4_readingsIn_14 : decode cX4_readingsIn 14 = .ok (.getfield 9, 3) := by decide +kernel
theorem dX4_readingsIn_17 : decode cX4_readingsIn 17 = .ok (.iload 5, 2) := by decide +kernel
theorem dX4_readingsIn_19 : decode cX4_readingsIn 19 = .ok (.iaload, 1) := by decide +kernel
theorem dX4_readingsIn_20 : decode cX4_readingsIn 20 = .ok (.ldc 15, 2) := by decide +kernel
theorem dX4_readingsIn_22 : decode cX4_readingsIn 22 = .ok (.if_icmp .eq 18, 3) := by decide +kernel
theorem dX4_readingsIn_25 : decode cX4_readingsIn 25 = .ok (.aload_n 0, 1) := by decide +kernel
theorem dX4_readingsIn_26 : decode cX4_readingsIn 26 = .ok (.iload 5, 2) := by decide +kernel
theorem dX4_readingsIn_28 : decode cX4_readingsIn 28 = .ok (.iload_n 1, 1) := by decide +kernel
theorem dX4_readingsIn_29 : decode cX4_readingsIn 29 = .ok (.iload_n 2, 1) := by decide +kernel
theorem dX4_readingsIn_30 : decode cX4_readingsIn 30 = .ok (.iload_n 3, 1) := by decide +kernel
theorem dX4_readingsIn_31 : decode cX4_readingsIn 31 = .ok (.invokevirtual 39, 3) := by decide +kernel
theorem dX4_readingsIn_34 : decode cX4_readingsIn 34 = .ok (.ifCond .eq 6, 3) := by decide +kernel
theorem dX4_readingsIn_37 : decode cX4_readingsIn 37 = .ok (.iinc 4 1, 3) := by decide +kernel
theorem dX4_readingsIn_40 : decode cX4_readingsIn 40 = .ok (.iinc 5 1, 3) := by decide +kernel
theorem dX4_readingsIn_43 : decode cX4_readingsIn 43 = .ok (.goto (-37), 3) := by decide +kernel
theorem dX4_readingsIn_46 : decode cX4_readingsIn 46 = .ok (.iload 4, 2) := by decide +kernel
theorem dX4_readingsIn_48 : decode cX4_readingsIn 48 = .ok (.ireturn, 1) := by decide +kernel
theorem dX4_heightsIn_0 : decode cX4_heightsIn 0 = .ok (.lconst 0, 1) := by decide +kernel
theorem dX4_heightsIn_1 : decode cX4_heightsIn 1 = .ok (.lstore 4, 2) := by decide +kernel
theorem dX4_heightsIn_3 : decode cX4_heightsIn 3 = .ok (.iconst 0, 1) := by decide +kernel
theorem dX4_heightsIn_4 : decode cX4_heightsIn 4 = .ok (.istore 6, 2) := by decide +kernel
theorem dX4_heightsIn_6 : decode cX4_heightsIn 6 = .ok (.iload 6, 2) := by decide +kernel
theorem dX4_heightsIn_8 : decode cX4_heightsIn 8 = .ok (.bipush 9, 2) := by decide +kernel
theorem dX4_heightsIn_10 : decode cX4_heightsIn 10 = .ok (.if_icmp .ge 46, 3) := by decide +kernel
theorem dX4_heightsIn_13 : decode cX4_heightsIn 13 = .ok (.aload_n 0, 1) := by decide +kernel
theorem dX4_heightsIn_14 : decode cX4_heightsIn 14 = .ok (.getfield 9, 3) := by decide +kernel
theorem dX4_heightsIn_17 : decode cX4_heightsIn 17 = .ok (.iload 6, 2) := by decide +kernel
theorem dX4_heightsIn_19 : decode cX4_heightsIn 19 = .ok (.iaload, 1) := by decide +kernel
theorem dX4_heightsIn_20 : decode cX4_heightsIn 20 = .ok (.ldc 15, 2) := by decide +kernel
theorem dX4_heightsIn_22 : decode cX4_heightsIn 22 = .ok (.if_icmp .eq 28, 3) := by decide +kernel
theorem dX4_heightsIn_25 : decode cX4_heightsIn 25 = .ok (.aload_n 0, 1) := by decide +kernel
theorem dX4_heightsIn_26 : decode cX4_heightsIn 26 = .ok (.iload 6, 2) := by decide +kernel
theorem dX4_heightsIn_28 : decode cX4_heightsIn 28 = .ok (.iload_n 1, 1) := by decide +kernel
theorem dX4_heightsIn_29 : decode cX4_heightsIn 29 = .ok (.iload_n 2, 1) := by decide +kernel
theorem dX4_heightsIn_30 : decode cX4_heightsIn 30 = .ok (.iload_n 3, 1) := by decide +kernel
theorem dX4_heightsIn_31 : decode cX4_heightsIn 31 = .ok (.invokevirtual 39, 3) := by decide +kernel
theorem dX4_heightsIn_34 : decode cX4_heightsIn 34 = .ok (.ifCond .eq 16, 3) := by decide +kernel
theorem dX4_heightsIn_37 : decode cX4_heightsIn 37 = .ok (.lload 4, 2) := by decide +kernel
theorem dX4_heightsIn_39 : decode cX4_heightsIn 39 = .ok (.aload_n 0, 1) := by decide +kernel
theorem dX4_heightsIn_40 : decode cX4_heightsIn 40 = .ok (.getfield 9, 3) := by decide +kernel
theorem dX4_heightsIn_43 : decode cX4_heightsIn 43 = .ok (.iload 6, 2) := by decide +kernel
theorem dX4_heightsIn_45 : decode cX4_heightsIn 45 = .ok (.iaload, 1) := by decide +kernel
theorem dX4_heightsIn_46 : decode cX4_heightsIn 46 = .ok (.i2l, 1) := by decide +kernel
theorem dX4_heightsIn_47 : decode cX4_heightsIn 47 = .ok (.ladd, 1) := by decide +kernel
theorem dX4_heightsIn_48 : decode cX4_heightsIn 48 = .ok (.lstore 4, 2) := by decide +kernel
theorem dX4_heightsIn_50 : decode cX4_heightsIn 50 = .ok (.iinc 6 1, 3) := by decide +kernel
theorem dX4_heightsIn_53 : decode cX4_heightsIn 53 = .ok (.goto (-47), 3) := by decide +kernel
theorem dX4_heightsIn_56 : decode cX4_heightsIn 56 = .ok (.lload 4, 2) := by decide +kernel
theorem dX4_heightsIn_58 : decode cX4_heightsIn 58 = .ok (.lreturn, 1) := by decide +kernel
theorem dX4_isIn_0 : decode cX4_isIn 0 = .ok (.iload_n 2, 1) := by decide +kernel
theorem dX4_isIn_1 : decode cX4_isIn 1 = .ok (.ifCond .gt 5, 3) := by decide +kernel
theorem dX4_isIn_4 : decode cX4_isIn 4 = .ok (.iconst 0, 1) := by decide +kernel
theorem dX4_isIn_5 : decode cX4_isIn 5 = .ok (.ireturn, 1) := by decide +kernel
theorem dX4_isIn_6 : decode cX4_isIn 6 = .ok (.bipush 8, 2) := by decide +kernel
theorem dX4_isIn_8 : decode cX4_isIn 8 = .ok (.aload_n 0, 1) := by decide +kernel
theorem dX4_isIn_9 : decode cX4_isIn 9 = .ok (.getfield 16, 3) := by decide +kernel
theorem dX4_isIn_12 : decode cX4_isIn 12 = .ok (.imul, 1) := by decide +kernel
theorem dX4_isIn_13 : decode cX4_isIn 13 = .ok (.aload_n 0, 1) := by decide +kernel
theorem dX4_isIn_14 : decode cX4_isIn 14 = .ok (.getfield 26, 3) := by decide +kernel
theorem dX4_isIn_17 : decode cX4_isIn 17 = .ok (.iload_n 1, 1) := by decide +kernel
theorem dX4_isIn_18 : decode cX4_isIn 18 = .ok (.imul, 1) := by decide +kernel
theorem dX4_isIn_19 : decode cX4_isIn 19 = .ok (.iadd, 1) := by decide +kernel
theorem dX4_isIn_20 : decode cX4_isIn 20 = .ok (.istore 5, 2) := by decide +kernel
theorem dX4_isIn_22 : decode cX4_isIn 22 = .ok (.bipush 8, 2) := by decide +kernel
theorem dX4_isIn_24 : decode cX4_isIn 24 = .ok (.aload_n 0, 1) := by decide +kernel
theorem dX4_isIn_25 : decode cX4_isIn 25 = .ok (.getfield 20, 3) := by decide +kernel
theorem dX4_isIn_28 : decode cX4_isIn 28 = .ok (.imul, 1) := by decide +kernel
theorem dX4_isIn_29 : decode cX4_isIn 29 = .ok (.aload_n 0, 1) := by decide +kernel
theorem dX4_isIn_30 : decode cX4_isIn 30 = .ok (.getfield 29, 3) := by decide +kernel
theorem dX4_isIn_33 : decode cX4_isIn 33 = .ok (.iload_n 1, 1) := by decide +kernel
theorem dX4_isIn_34 : decode cX4_isIn 34 = .ok (.imul, 1) := by decide +kernel
theorem dX4_isIn_35 : decode cX4_isIn 35 = .ok (.iadd, 1) := by decide +kernel
theorem dX4_isIn_36 : decode cX4_isIn 36 = .ok (.istore 6, 2) := by decide +kernel
theorem dX4_isIn_38 : decode cX4_isIn 38 = .ok (.iload 5, 2) := by decide +kernel
theorem dX4_isIn_40 : decode cX4_isIn 40 = .ok (.bipush 8, 2) := by decide +kernel
theorem dX4_isIn_42 : decode cX4_isIn 42 = .ok (.iload_n 2, 1) := by decide +kernel
theorem dX4_isIn_43 : decode cX4_isIn 43 = .ok (.imul, 1) := by decide +kernel
theorem dX4_isIn_44 : decode cX4_isIn 44 = .ok (.invokestatic 43, 3) := by decide +kernel
theorem dX4_isIn_47 : decode cX4_isIn 47 = .ok (.iload_n 3, 1) := by decide +kernel
theorem dX4_isIn_48 : decode cX4_isIn 48 = .ok (.if_icmp .ne 21, 3) := by decide +kernel
theorem dX4_isIn_51 : decode cX4_isIn 51 = .ok (.iload 6, 2) := by decide +kernel
theorem dX4_isIn_53 : decode cX4_isIn 53 = .ok (.bipush 8, 2) := by decide +kernel
theorem dX4_isIn_55 : decode cX4_isIn 55 = .ok (.iload_n 2, 1) := by decide +kernel
theorem dX4_isIn_56 : decode cX4_isIn 56 = .ok (.imul, 1) := by decide +kernel
theorem dX4_isIn_57 : decode cX4_isIn 57 = .ok (.invokestatic 43, 3) := by decide +kernel
theorem dX4_isIn_60 : decode cX4_isIn 60 = .ok (.iload 4, 2) := by decide +kernel
theorem dX4_isIn_62 : decode cX4_isIn 62 = .ok (.if_icmp .ne 7, 3) := by decide +kernel
theorem dX4_isIn_65 : decode cX4_isIn 65 = .ok (.iconst 1, 1) := by decide +kernel
theorem dX4_isIn_66 : decode cX4_isIn 66 = .ok (.goto 4, 3) := by decide +kernel
theorem dX4_isIn_69 : decode cX4_isIn 69 = .ok (.iconst 0, 1) := by decide +kernel
theorem dX4_isIn_70 : decode cX4_isIn 70 = .ok (.ireturn, 1) := by decide +kernel
end
section
theorem dX5_init_0 : decode cX5_init 0 = .ok (.aload_n 0, 1) := by decide +kernel
theorem dX5_init_1 : decode cX5_init 1 = .ok (.invokespecial 3, 3) := by decide +kernel
theorem dX5_init_4 : decode cX5_init 4 = .ok (.aload_n 0, 1) := by decide +kernel
theorem dX5_init_5 : decode cX5_init 5 = .ok (.bipush 8, 2) := by decide +kernel
theorem dX5_init_7 : decode cX5_init 7 = .ok (.anewarray 9, 3) := by decide +kernel
theorem dX5_init_10 : decode cX5_init 10 = .ok (.putfield 11, 3) := by decide +kernel
theorem dX5_init_13 : decode cX5_init 13 = .ok (.iconst 0, 1) := by decide +kernel
theorem dX5_init_14 : decode cX5_init 14 = .ok (.istore_n 1, 1) := by decide +kernel
theorem dX5_init_15 : decode cX5_init 15 = .ok (.iload_n 1, 1) := by decide +kernel
theorem dX5_init_16 : decode cX5_init 16 = .ok (.bipush 8, 2) := by decide +kernel
theorem dX5_init_18 : decode cX5_init 18 = .ok (.if_icmp .ge 22, 3) := by decide +kernel
theorem dX5_init_21 : decode cX5_init 21 = .ok (.aload_n 0, 1) := by decide +kernel
theorem dX5_init_22 : decode cX5_init 22 = .ok (.getfield 11, 3) := by decide +kernel
theorem dX5_init_25 : decode cX5_init 25 = .ok (.iload_n 1, 1) := by decide +kernel
theorem dX5_init_26 : decode cX5_init 26 = .ok (.new 9, 3) := by decide +kernel
theorem dX5_init_29 : decode cX5_init 29 = .ok (.dup, 1) := by decide +kernel
theorem dX5_init_30 : decode cX5_init 30 = .ok (.invokespecial 15, 3) := by decide +kernel
theorem dX5_init_33 : decode cX5_init 33 = .ok (.aastore, 1) := by decide +kernel
theorem dX5_init_34 : decode cX5_init 34 = .ok (.iinc 1 1, 3) := by decide +kernel
theorem dX5_init_37 : decode cX5_init 37 = .ok (.goto (-22), 3) := by decide +kernel
theorem dX5_init_40 : decode cX5_init 40 = .ok (.aload_n 0, 1) := by decide +kernel
theorem dX5_init_41 : decode cX5_init 41 = .ok (.new 16, 3) := by decide +kernel
theorem dX5_init_44 : decode cX5_init 44 = .ok (.dup, 1) := by decide +kernel
theorem dX5_init_45 : decode cX5_init 45 = .ok (.invokespecial 18, 3) := by decide +kernel
theorem dX5_init_48 : decode cX5_init 48 = .ok (.putfield 19, 3) := by decide +kernel
theorem dX5_init_51 : decode cX5_init 51 = .ok (.aload_n 0, 1) := by decide +kernel
theorem dX5_init_52 : decode cX5_init 52 = .ok (.new 23, 3) := by decide +kernel
theorem dX5_init_55 : decode cX5_init 55 = .ok (.dup, 1) := by decide +kernel
theorem dX5_init_56 : decode cX5_init 56 = .ok (.invokespecial 25, 3) := by decide +kernel
theorem dX5_init_59 : decode cX5_init 59 = .ok (.putfield 26, 3) := by decide +kernel
theorem dX5_init_62 : decode cX5_init 62 = .ok (.aload_n 0, 1) := by decide +kernel
theorem dX5_init_63 : decode cX5_init 63 = .ok (.new 30, 3) := by decide +kernel
theorem dX5_init_66 : decode cX5_init 66 = .ok (.dup, 1) := by decide +kernel
theorem dX5_init_67 : decode cX5_init 67 = .ok (.invokespecial 32, 3) := by decide +kernel
theorem dX5_init_70 : decode cX5_init 70 = .ok (.putfield 33, 3) := by decide +kernel
theorem dX5_init_73 : decode cX5_init 73 = .ok (.aload_n 0, 1) := by decide +kernel
theorem dX5_init_74 : decode cX5_init 74 = .ok (.new 37, 3) := by decide +kernel
theorem dX5_init_77 : decode cX5_init 77 = .ok (.dup, 1) := by decide +kernel
theorem dX5_init_78 : decode cX5_init 78 = .ok (.invokespecial 39, 3) := by decide +kernel
theorem dX5_init_81 : decode cX5_init 81 = .ok (.putfield 40, 3) := by decide +kernel
theorem dX5_init_84 : decode cX5_init 84 = .ok (.aload_n 0, 1) := by decide +kernel
theorem dX5_init_85 : decode cX5_init 85 = .ok (.iconst 0, 1) := by decide +kernel
theorem dX5_init_86 : decode cX5_init 86 = .ok (.putfield 44, 3) := by decide +kernel
theorem dX5_init_89 : decode cX5_init 89 = .ok (.aload_n 0, 1) := by decide +kernel
theorem dX5_init_90 : decode cX5_init 90 = .ok (.iconst 1, 1) := by decide +kernel
theorem dX5_init_91 : decode cX5_init 91 = .ok (.putfield 48, 3) := by decide +kernel
theorem dX5_init_94 : decode cX5_init 94 = .ok (.return_, 1) := by decide +kernel
theorem dX5_track_0 : decode cX5_track 0 = .ok (.iload_n 1, 1) := by decide +kernel
theorem dX5_track_1 : decode cX5_track 1 = .ok (.invokestatic 52, 3) := by decide +kernel
theorem dX5_track_4 : decode cX5_track 4 = .ok (.ifCond .eq 29, 3) := by decide +kernel
theorem dX5_track_7 : decode cX5_track 7 = .ok (.iload_n 2, 1) := by decide +kernel
theorem dX5_track_8 : decode cX5_track 8 = .ok (.invokestatic 52, 3) := by decide +kernel
theorem dX5_track_11 : decode cX5_track 11 = .ok (.ifCond .eq 22, 3) := by decide +kernel
theorem dX5_track_14 : decode cX5_track 14 = .ok (.iload_n 3, 1) := by decide +kernel
theorem dX5_track_15 : decode cX5_track 15 = .ok (.invokestatic 52, 3) := by decide +kernel
theorem dX5_track_18 : decode cX5_track 18 = .ok (.ifCond .eq 15, 3) := by decide +kernel
theorem dX5_track_21 : decode cX5_track 21 = .ok (.iload 4, 2) := by decide +kernel
theorem dX5_track_23 : decode cX5_track 23 = .ok (.invokestatic 52, 3) := by decide +kernel
theorem dX5_track_26 : decode cX5_track 26 = .ok (.ifCond .eq 7, 3) := by decide +kernel
theorem dX5_track_29 : decode cX5_track 29 = .ok (.iconst 1, 1) := by decide +kernel
theorem dX5_track_30 : decode cX5_track 30 = .ok (.goto 4, 3) := by decide +kernel
theorem dX5_track_33 : decode cX5_track 33 = .ok (.iconst 0, 1) := by decide +kernel
theorem dX5_track_34 : decode cX5_track 34 = .ok (.istore 7, 2) := by decide +kernel
theorem dX5_track_36 : decode cX5_track 36 = .ok (.iload 5, 2) := by decide +kernel
theorem dX5_track_38 : decode cX5_track 38 = .ok (.iconst 0, 1) := by decide +kernel
theorem dX5_track_39 : decode cX5_track 39 = .ok (.ldc 56, 2) := by decide +kernel
theorem dX5_track_41 : decode cX5_track 41 = .ok (.invokestatic 57, 3) := by decide +kernel
theorem dX5_track_44 : decode cX5_track 44 = .ok (.ifCond .eq 25, 3) := by decide +kernel
theorem dX5_track_47 : decode cX5_track 47 = .ok (.iload 6, 2) := by decide +kernel
theorem dX5_track_49 : decode cX5_track 49 = .ok (.iconst 0, 1) := by decide +kernel
theorem dX5_track_50 : decode cX5_track 50 = .ok (.ldc 56, 2) := by decide +kernel
theorem dX5_track_52 : decode cX5_track 52 = .ok (.invokestatic 57, 3) := by decide +kernel
theorem dX5_track_55 : decode cX5_track 55 = .ok (.ifCond .eq 14, 3) := by decide +kernel
theorem dX5_track_58 : decode cX5_track 58 = .ok (.iload 5, 2) := by decide +kernel
theorem dX5_track_60 : decode cX5_track 60 = .ok (.iload 6, 2) := by decide +kernel
theorem dX5_track_62 : decode cX5_track 62 = .ok (.if_icmp .ge 7, 3) := by decide +kernel
theorem dX5_track_65 : decode cX5_track 65 = .ok (.iconst 1, 1) := by decide +kernel
theorem dX5_track_66 : decode cX5_track 66 = .ok (.goto 4, 3) := by decide +kernel
theorem dX5_track_69 : decode cX5_track 69 = .ok (.iconst 0, 1) := by decide +kernel
theorem dX5_track_70 : decode cX5_track 70 = .ok (.istore 8, 2) := by decide +kernel
theorem dX5_track_72 : decode cX5_track 72 = .ok (.iload_n 1, 1) := by decide +kernel
theorem dX5_track_73 : decode cX5_track 73 = .ok (.iload_n 3, 1) := by decide +kernel
theorem dX5_track_74 : decode cX5_track 74 = .ok (.if_icmp .ne 13, 3) := by decide +kernel
theorem dX5_track_77 : decode cX5_track 77 = .ok (.iload_n 2, 1) := by decide +kernel
theorem dX5_track_78 : decode cX5_track 78 = .ok (.iload 4, 2) := by decide +kernel
theorem dX5_track_80 : decode cX5_track 80 = .ok (.if_icmp .ne 7, 3) := by decide +kernel
theorem dX5_track_83 : decode cX5_track 83 = .ok (.iconst 1, 1) := by decide +kernel
theorem dX5_track_84 : decode cX5_track 84 = .ok (.goto 4, 3) := by decide +kernel
theorem dX5_track_87 : decode cX5_track 87 = .ok (.iconst 0, 1) := by decide +kernel
theorem dX5_track_88 : decode cX5_track 88 = .ok (.istore 9, 2) := by decide +kernel
theorem dX5_track_90 : decode cX5_track 90 = .ok (.iload 7, 2) := by decide +kernel
theorem dX5_track_92 : decode cX5_track 92 = .ok (.ifCond .eq 13, 3) := by decide +kernel
theorem dX5_track_95 : decode cX5_track 95 = .ok (.iload 8, 2) := by decide +kernel
theorem dX5_track_97 : decode cX5_track 97 = .ok (.ifCond .eq 8, 3) := by decide +kernel
theorem dX5_track_100 : decode cX5_track 100 = .ok (.iload 9, 2) := by decide +kernel
theorem dX5_track_102 : decode cX5_track 102 = .ok (.ifCond .eq 5, 3) := by decide +kernel
theorem dX5_track_105 : decode cX5_track 105 = .ok (.iconst (-1), 1) := by decide +kernel
theorem dX5_track_106 : decode cX5_track 106 = .ok (.ireturn, 1) := by decide +kernel
theorem dX5_track_107 : decode cX5_track 107 = .ok (.aload_n 0, 1) := by decide +kernel
theorem dX5_track_108 : decode cX5_track 108 = .ok (.getfield 44, 3) := by decide +kernel
theorem dX5_track_111 : decode cX5_track 111 = .ok (.bipush 8, 2) := by decide +kernel
theorem dX5_track_113 : decode cX5_track 113 = .ok (.if_icmp .lt 6, 3) := by decide +kernel
theorem dX5_track_116 : decode cX5_track 116 = .ok (.bipush (-3), 2) := by decide +kernel
theorem dX5_track_118 : decode cX5_track 118 = .ok (.ireturn, 1) := by decide +kernel
theorem dX5_track_119 : decode cX5_track 119 = .ok (.aload_n 0, 1) := by decide +kernel
theorem dX5_track_120 : decode cX5_track 120 = .ok (.getfield 11, 3) := by decide +kernel
theorem dX5_track_123 : decode cX5_track 123 = .ok (.aload_n 0, 1) := by decide +kernel
theorem dX5_track_124 : decode cX5_track 124 = .ok (.getfield 44, 3) := by decide +kernel
theorem dX5_track_127 : decode cX5_track 127 = .ok (.aaload, 1) := by decide +kernel
theorem dX5_track_128 : decode cX5_track 128 = .ok (.astore 10, 2) := by decide +kernel
theorem dX5_track_130 : decode cX5_track 130 = .ok (.aload 10, 2) := by decide +kernel
theorem dX5_track_132 : decode cX5_track 132 = .ok (.iload_n 1, 1) := by decide +kernel
theorem dX5_track_133 : decode cX5_track 133 = .ok (.iload_n 2, 1) := by decide +kernel
theorem dX5_track_134 : decode cX5_track 134 = .ok (.iload 5, 2) := by decide +kernel
theorem dX5_track_136 : decode cX5_track 136 = .ok (.invokevirtual 61, 3) := by decide +kernel
theorem dX5_track_139 : decode cX5_track 139 = .ok (.aload 10, 2) := by decide +kernel
theorem dX5_track_141 : decode cX5_track 141 = .ok (.iload_n 3, 1) := by decide +kernel
theorem dX5_track_142 : decode cX5_track 142 = .ok (.iload 4, 2) := by decide +kernel
theorem dX5_track_144 : decode cX5_track 144 = .ok (.iload 6, 2) := by decide +kernel
theorem dX5_track_146 : decode cX5_track 146 = .ok (.invokevirtual 65, 3) := by decide +kernel
theorem dX5_track_149 : decode cX5_track 149 = .ok (.aload_n 0, 1) := by decide +kernel
theorem dX5_track_150 : decode cX5_track 150 = .ok (.dup, 1) := by decide +kernel
theorem dX5_track_151 : decode cX5_track 151 = .ok (.getfield 44, 3) := by decide +kernel
theorem dX5_track_154 : decode cX5_track 154 = .ok (.iconst 1, 1) := by decide +kernel
theorem dX5_track_155 : decode cX5_track 155 = .ok (.iadd, 1) := by decide +kernel
theorem dX5_track_156 : decode cX5_track 156 = .ok (.putfield 44, 3) := by decide +kernel
theorem dX5_track_159 : decode cX5_track 159 = .ok (.aload_n 0, 1) := by decide +kernel
theorem dX5_track_160 : decode cX5_track 160 = .ok (.iconst 1, 1) := by decide +kernel
theorem dX5_track_161 : decode cX5_track 161 = .ok (.putfield 48, 3) := by decide +kernel
theorem dX5_track_164 : decode cX5_track 164 = .ok (.aload_n 0, 1) := by decide +kernel
theorem dX5_track_165 : decode cX5_track 165 = .ok (.getfield 44, 3) := by decide +kernel
theorem dX5_track_168 : decode cX5_track 168 = .ok (.iconst 1, 1) := by decide +kernel
theorem dX5_track_169 : decode cX5_track 169 = .ok (.isub, 1) := by decide +kernel
theorem dX5_track_170 : decode cX5_track 170 = .ok (.ireturn, 1) := by decide +kernel
theorem dX5_read_0 : decode cX5_read 0 = .ok (.iload_n 3, 1) := by decide +kernel
theorem dX5_read_1 : decode cX5_read 1 = .ok (.ldc 68, 2) := by decide +kernel
theorem dX5_read_3 : decode cX5_read 3 = .ok (.if_icmp .eq 16, 3) := by decide +kernel
theorem dX5_read_6 : decode cX5_read 6 = .ok (.iload_n 3, 1) := by decide +kernel
theorem dX5_read_7 : decode cX5_read 7 = .ok (.sipush (-10000), 3) := by decide +kernel
theorem dX5_read_10 : decode cX5_read 10 = .ok (.sipush 10000, 3) := by decide +kernel
theorem dX5_read_13 : decode cX5_read 13 = .ok (.invokestatic 57, 3) := by decide +kernel
theorem dX5_read_16 : decode cX5_read 16 = .ok (.ifCond .eq 7, 3) := by decide +kernel
theorem dX5_read_19 : decode cX5_read 19 = .ok (.iconst 1, 1) := by decide +kernel
theorem dX5_read_20 : decode cX5_read 20 = .ok (.goto 4, 3) := by decide +kernel
theorem dX5_read_23 : decode cX5_read 23 = .ok (.iconst 0, 1) := by decide +kernel
theorem dX5_read_24 : decode cX5_read 24 = .ok (.istore 4, 2) := by decide +kernel
theorem dX5_read_26 : decode cX5_read 26 = .ok (.aload_n 0, 1) := by decide +kernel
theorem dX5_read_27 : decode cX5_read 27 = .ok (.iload_n 1, 1) := by decide +kernel
theorem dX5_read_28 : decode cX5_read 28 = .ok (.invokevirtual 69, 3) := by decide +kernel
theorem dX5_read_31 : decode cX5_read 31 = .ok (.ifCond .eq 18, 3) := by decide +kernel
theorem dX5_read_34 : decode cX5_read 34 = .ok (.iload_n 2, 1) := by decide +kernel
theorem dX5_read_35 : decode cX5_read 35 = .ok (.iconst 0, 1) := by decide +kernel
theorem dX5_read_36 : decode cX5_read 36 = .ok (.bipush 8, 2) := by decide +kernel
theorem dX5_read_38 : decode cX5_read 38 = .ok (.invokestatic 57, 3) := by decide +kernel
theorem dX5_read_41 : decode cX5_read 41 = .ok (.ifCond .eq 8, 3) := by decide +kernel
theorem dX5_read_44 : decode cX5_read 44 = .ok (.iload 4, 2) := by decide +kernel
theorem dX5_read_46 : decode cX5_read 46 = .ok (.ifCond .ne 6, 3) := by decide +kernel
theorem dX5_read_49 : decode cX5_read 49 = .ok (.ldc 72, 2) := by decide +kernel
theorem dX5_read_51 : decode cX5_read 51 = .ok (.ireturn, 1) := by decide +kernel
theorem dX5_read_52 : decode cX5_read 52 = .ok (.aload_n 0, 1) := by decide +kernel
theorem dX5_read_53 : decode cX5_read 53 = .ok (.getfield 11, 3) := by decide +kernel
theorem dX5_read_56 : decode cX5_read 56 = .ok (.iload_n 1, 1) := by decide +kernel
theorem dX5_read_57 : decode cX5_read 57 = .ok (.aaload, 1) := by decide +kernel
theorem dX5_read_58 : decode cX5_read 58 = .ok (.getfield 73, 3) := by decide +kernel
theorem dX5_read_61 : decode cX5_read 61 = .ok (.iload_n 2, 1) := by decide +kernel
theorem dX5_read_62 : decode cX5_read 62 = .ok (.iaload, 1) := by decide +kernel
theorem dX5_read_63 : decode cX5_read 63 = .ok (.istore 5, 2) := by decide +kernel
theorem dX5_read_65 : decode cX5_read 65 = .ok (.aload_n 0, 1) := by decide +kernel
theorem dX5_read_66 : decode cX5_read 66 = .ok (.getfield 11, 3) := by decide +kernel
theorem dX5_read_69 : decode cX5_read 69 = .ok (.iload_n 1, 1) := by decide +kernel
theorem dX5_read_70 : decode cX5_read 70 = .ok (.aaload, 1) := by decide +kernel
theorem dX5_read_71 : decode cX5_read 71 = .ok (.getfield 73, 3) := by decide +kernel
theorem dX5_read_74 : decode cX5_read 74 = .ok (.iload_n 2, 1) := by decide +kernel
theorem dX5_read_75 : decode cX5_read 75 = .ok (.iload_n 3, 1) := by decide +kernel
theorem dX5_read_76 : decode cX5_read 76 = .ok (.iastore, 1) := by decide +kernel
theorem dX5_read_77 : decode cX5_read 77 = .ok (.aload_n 0, 1) := by decide +kernel
theorem dX5_read_78 : decode cX5_read 78 = .ok (.iconst 1, 1) := by decide +kernel
theorem dX5_read_79 : decode cX5_read 79 = .ok (.putfield 48, 3) := by decide +kernel
theorem dX5_read_82 : decode cX5_read 82 = .ok (.iload 5, 2) := by decide +kernel
theorem dX5_read_84 : decode cX5_read 84 = .ok (.ireturn, 1) := by decide +kernel
theorem dX5_hold_0 : decode cX5_hold 0 = .ok (.aload_n 0, 1) := by decide +kernel
theorem dX5_hold_1 : decode cX5_hold 1 = .ok (.iload_n 1, 1) := by decide +kernel
theorem dX5_hold_2 : decode cX5_hold 2 = .ok (.invokevirtual 69, 3) := by decide +kernel
theorem dX5_hold_5 : decode cX5_hold 5 = .ok (.ifCond .ne 5, 3) := by decide +kernel
theorem dX5_hold_8 : decode cX5_hold 8 = .ok (.iconst (-1), 1) := by decide +kernel
theorem dX5_hold_9 : decode cX5_hold 9 = .ok (.ireturn, 1) := by decide +kernel
theorem dX5_hold_10 : decode cX5_hold 10 = .ok (.aload_n 0, 1) := by decide +kernel
theorem dX5_hold_11 : decode cX5_hold 11 = .ok (.getfield 11, 3) := by decide +kernel
theorem dX5_hold_14 : decode cX5_hold 14 = .ok (.iload_n 1, 1) := by decide +kernel
theorem dX5_hold_15 : decode cX5_hold 15 = .ok (.aaload, 1) := by decide +kernel
theorem dX5_hold_16 : decode cX5_hold 16 = .ok (.getfield 77, 3) := by decide +kernel
theorem dX5_hold_19 : decode cX5_hold 19 = .ok (.istore_n 3, 1) := by decide +kernel
theorem dX5_hold_20 : decode cX5_hold 20 = .ok (.aload_n 0, 1) := by decide +kernel
theorem dX5_hold_21 : decode cX5_hold 21 = .ok (.getfield 11, 3) := by decide +kernel
theorem dX5_hold_24 : decode cX5_hold 24 = .ok (.iload_n 1, 1) := by decide +kernel
theorem dX5_hold_25 : decode cX5_hold 25 = .ok (.aaload, 1) := by decide +kernel
theorem dX5_hold_26 : decode cX5_hold 26 = .ok (.iload_n 2, 1) := by decide +kernel
theorem dX5_hold_27 : decode cX5_hold 27 = .ok (.putfield 77, 3) := by decide +kernel
theorem dX5_hold_30 : decode cX5_hold 30 = .ok (.aload_n 0, 1) := by decide +kernel
theorem dX5_hold_31 : decode cX5_hold 31 = .ok (.iconst 1, 1) := by decide +kernel
theorem dX5_hold_32 : decode cX5_hold 32 = .ok (.putfield 48, 3) := by decide +kernel
theorem dX5_hold_35 : decode cX5_hold 35 = .ok (.iload_n 3, 1) := by decide +kernel
theorem dX5_hold_36 : decode cX5_hold 36 = .ok (.ifCond .eq 7, 3) := by decide +kernel
theorem dX5_hold_39 : decode cX5_hold 39 = .ok (.iconst 1, 1) := by decide +kernel
theorem dX5_hold_40 : decode cX5_hold 40 = .ok (.goto 4, 3) := by decide +kernel
theorem dX5_hold_43 : decode cX5_hold 43 = .ok (.iconst 0, 1) := by decide +kernel
theorem dX5_hold_44 : decode cX5_hold 44 = .ok (.ireturn, 1) := by decide +kernel
theorem dX5_cross_0 : decode cX5_cross 0 = .ok (.iload_n 3, 1) := by decide +kernel
theorem dX5_cross_1 : decode cX5_cross 1 = .ok (.iconst 0, 1) := by decide +kernel
theorem dX5_cross_2 : decode cX5_cross 2 = .ok (.bipush 7, 2) := by decide +kernel
theorem dX5_cross_4 : decode cX5_cross 4 = .ok (.invokestatic 57, 3) := by decide +kernel
theorem dX5_cross_7 : decode cX5_cross 7 = .ok (.istore 5, 2) := by decide +kernel
theorem dX5_cross_9 : decode cX5_cross 9 = .ok (.aload_n 0, 1) := by decide +kernel
theorem dX5_cross_10 : decode cX5_cross 10 = .ok (.iload_n 1, 1) := by decide +kernel
theorem dX5_cross_11 : decode cX5_cross 11 = .ok (.iload_n 2, 1) := by decide +kernel
theorem dX5_cross_12 : decode cX5_cross 12 = .ok (.invokevirtual 80, 3) := by decide +kernel
theorem dX5_cross_15 : decode cX5_cross 15 = .ok (.ifCond .eq 16, 3) := by decide +kernel
theorem dX5_cross_18 : decode cX5_cross 18 = .ok (.iload 5, 2) := by decide +kernel
theorem dX5_cross_20 : decode cX5_cross 20 = .ok (.ifCond .eq 11, 3) := by decide +kernel
theorem dX5_cross_23 : decode cX5_cross 23 = .ok (.iload 4, 2) := by decide +kernel
theorem dX5_cross_25 : decode cX5_cross 25 = .ok (.invokestatic 84, 3) := by decide +kernel
theorem dX5_cross_28 : decode cX5_cross 28 = .ok (.ifCond .ne 7, 3) := by decide +kernel
theorem dX5_cross_31 : decode cX5_cross 31 = .ok (.ldc2_w 87, 3) := by decide +kernel
theorem dX5_cross_34 : decode cX5_cross 34 = .ok (.lreturn, 1) := by decide +kernel
theorem dX5_cross_35 : decode cX5_cross 35 = .ok (.aload_n 0, 1) := by decide +kernel
theorem dX5_cross_36 : decode cX5_cross 36 = .ok (.getfield 19, 3) := by decide +kernel
theorem dX5_cross_39 : decode cX5_cross 39 = .ok (.aload_n 0, 1) := by decide +kernel
theorem dX5_cross_40 : decode cX5_cross 40 = .ok (.getfield 11, 3) := by decide +kernel
theorem dX5_cross_43 : decode cX5_cross 43 = .ok (.iload_n 1, 1) := by decide +kernel
theorem dX5_cross_44 : decode cX5_cross 44 = .ok (.aaload, 1) := by decide +kernel
theorem dX5_cross_45 : decode cX5_cross 45 = .ok (.aload_n 0, 1) := by decide +kernel
theorem dX5_cross_46 : decode cX5_cross 46 = .ok (.getfield 11, 3) := by decide +kernel
theorem dX5_cross_49 : decode cX5_cross 49 = .ok (.iload_n 2, 1) := by decide +kernel
theorem dX5_cross_50 : decode cX5_cross 50 = .ok (.aaload, 1) := by decide +kernel
theorem dX5_cross_51 : decode cX5_cross 51 = .ok (.invokevirtual 89, 3) := by decide +kernel
theorem dX5_cross_54 : decode cX5_cross 54 = .ok (.aload_n 0, 1) := by decide +kernel
theorem dX5_cross_55 : decode cX5_cross 55 = .ok (.getfield 19, 3) := by decide +kernel
theorem dX5_cross_58 : decode cX5_cross 58 = .ok (.getfield 93, 3) := by decide +kernel
theorem dX5_cross_61 : decode cX5_cross 61 = .ok (.ifCond .ne 7, 3) := by decide +kernel
theorem dX5_cross_64 : decode cX5_cross 64 = .ok (.ldc2_w 96, 3) := by decide +kernel
theorem dX5_cross_67 : decode cX5_cross 67 = .ok (.lreturn, 1) := by decide +kernel
theorem dX5_cross_68 : decode cX5_cross 68 = .ok (.aload_n 0, 1) := by decide +kernel
theorem dX5_cross_69 : decode cX5_cross 69 = .ok (.getfield 19, 3) := by decide +kernel
theorem dX5_cross_72 : decode cX5_cross 72 = .ok (.iload_n 3, 1) := by decide +kernel
theorem dX5_cross_73 : decode cX5_cross 73 = .ok (.aload_n 0, 1) := by decide +kernel
theorem dX5_cross_74 : decode cX5_cross 74 = .ok (.getfield 11, 3) := by decide +kernel
theorem dX5_cross_77 : decode cX5_cross 77 = .ok (.iload_n 1, 1) := by decide +kernel
theorem dX5_cross_78 : decode cX5_cross 78 = .ok (.aaload, 1) := by decide +kernel
theorem dX5_cross_79 : decode cX5_cross 79 = .ok (.aload_n 0, 1) := by decide +kernel
theorem dX5_cross_80 : decode cX5_cross 80 = .ok (.getfield 11, 3) := by decide +kernel
theorem dX5_cross_83 : decode cX5_cross 83 = .ok (.iload_n 2, 1) := by decide +kernel
theorem dX5_cross_84 : decode cX5_cross 84 = .ok (.aaload, 1) := by decide +kernel
theorem dX5_cross_85 : decode cX5_cross 85 = .ok (.invokevirtual 98, 3) := by decide +kernel
theorem dX5_cross_88 : decode cX5_cross 88 = .ok (.lstore 6, 2) := by decide +kernel
theorem dX5_cross_90 : decode cX5_cross 90 = .ok (.lload 6, 2) := by decide +kernel
theorem dX5_cross_92 : decode cX5_cross 92 = .ok (.ldc2_w 102, 3) := by decide +kernel
theorem dX5_cross_95 : decode cX5_cross 95 = .ok (.lcmp, 1) := by decide +kernel
theorem dX5_cross_96 : decode cX5_cross 96 = .ok (.ifCond .ne 7, 3) := by decide +kernel
theorem dX5_cross_99 : decode cX5_cross 99 = .ok (.ldc2_w 96, 3) := by decide +kernel
theorem dX5_cross_102 : decode cX5_cross 102 = .ok (.lreturn, 1) := by decide +kernel
theorem dX5_cross_103 : decode cX5_cross 103 = .ok (.aload_n 0, 1) := by decide +kernel
theorem dX5_cross_104 : decode cX5_cross 104 = .ok (.getfield 40, 3) := by decide +kernel
theorem dX5_cross_107 : decode cX5_cross 107 = .ok (.lload 6, 2) := by decide +kernel
theorem dX5_cross_109 : decode cX5_cross 109 = .ok (.aload_n 0, 1) := by decide +kernel
theorem dX5_cross_110 : decode cX5_cross 110 = .ok (.getfield 19, 3) := by decide +kernel
theorem dX5_cross_113 : decode cX5_cross 113 = .ok (.getfield 104, 3) := by decide +kernel
theorem dX5_cross_116 : decode cX5_cross 116 = .ok (.invokevirtual 108, 3) := by decide +kernel
theorem dX5_cross_119 : decode cX5_cross 119 = .ok (.aload_n 0, 1) := by decide +kernel
theorem dX5_cross_120 : decode cX5_cross 120 = .ok (.getfield 40, 3) := by decide +kernel
theorem dX5_cross_123 : decode cX5_cross 123 = .ok (.iload 4, 2) := by decide +kernel
theorem dX5_cross_125 : decode cX5_cross 125 = .ok (.invokevirtual 112, 3) := by decide +kernel
theorem dX5_cross_128 : decode cX5_cross 128 = .ok (.lreturn, 1) := by decide +kernel
theorem dX5_crosses_0 : decode cX5_crosses 0 = .ok (.aload_n 0, 1) := by decide +kernel
theorem dX5_crosses_1 : decode cX5_crosses 1 = .ok (.iload_n 1, 1) := by decide +kernel
theorem dX5_crosses_2 : decode cX5_crosses 2 = .ok (.iload_n 2, 1) := by decide +kernel
theorem dX5_crosses_3 : decode cX5_crosses 3 = .ok (.invokevirtual 80, 3) := by decide +kernel
theorem dX5_crosses_6 : decode cX5_crosses 6 = .ok (.ifCond .ne 5, 3) := by decide +kernel
theorem dX5_crosses_9 : decode cX5_crosses 9 = .ok (.iconst (-1), 1) := by decide +kernel
theorem dX5_crosses_10 : decode cX5_crosses 10 = .ok (.ireturn, 1) := by decide +kernel
theorem dX5_crosses_11 : decode cX5_crosses 11 = .ok (.aload_n 0, 1) := by decide +kernel
theorem dX5_crosses_12 : decode cX5_crosses 12 = .ok (.getfield 19, 3) := by decide +kernel
theorem dX5_crosses_15 : decode cX5_crosses 15 = .ok (.aload_n 0, 1) := by decide +kernel
theorem dX5_crosses_16 : decode cX5_crosses 16 = .ok (.getfield 11, 3) := by decide +kernel
theorem dX5_crosses_19 : decode cX5_crosses 19 = .ok (.iload_n 1, 1) := by decide +kernel
theorem dX5_crosses_20 : decode cX5_crosses 20 = .ok (.aaload, 1) := by decide +kernel
theorem dX5_crosses_21 : decode cX5_crosses 21 = .ok (.aload_n 0, 1) := by decide +kernel
theorem dX5_crosses_22 : decode cX5_crosses 22 = .ok (.getfield 11, 3) := by decide +kernel
theorem dX5_crosses_25 : decode cX5_crosses 25 = .ok (.iload_n 2, 1) := by decide +kernel
theorem dX5_crosses_26 : decode cX5_crosses 26 = .ok (.aaload, 1) := by decide +kernel
theorem dX5_crosses_27 : decode cX5_crosses 27 = .ok (.invokevirtual 89, 3) := by decide +kernel
theorem dX5_crosses_30 : decode cX5_crosses 30 = .ok (.aload_n 0, 1) := by decide +kernel
theorem dX5_crosses_31 : decode cX5_crosses 31 = .ok (.getfield 19, 3) := by decide +kernel
theorem dX5_crosses_34 : decode cX5_crosses 34 = .ok (.getfield 93, 3) := by decide +kernel
theorem dX5_crosses_37 : decode cX5_crosses 37 = .ok (.ifCond .eq 7, 3) := by decide +kernel
theorem dX5_crosses_40 : decode cX5_crosses 40 = .ok (.iconst 1, 1) := by decide +kernel
theorem dX5_crosses_41 : decode cX5_crosses 41 = .ok (.goto 4, 3) := by decide +kernel
theorem dX5_crosses_44 : decode cX5_crosses 44 = .ok (.iconst 0, 1) := by decide +kernel
theorem dX5_crosses_45 : decode cX5_crosses 45 = .ok (.ireturn, 1) := by decide +kernel
theorem dX5_difference_0 : decode cX5_difference 0 = .ok (.aload_n 0, 1) := by decide +kernel
theorem dX5_difference_1 : decode cX5_difference 1 = .ok (.iload_n 1, 1) := by decide +kernel
theorem dX5_difference_2 : decode cX5_difference 2 = .ok (.iload_n 2, 1) := by decide +kernel
theorem dX5_difference_3 : decode cX5_difference 3 = .ok (.invokevirtual 80, 3) := by decide +kernel
theorem dX5_difference_6 : decode cX5_difference 6 = .ok (.ifCond .eq 8, 3) := by decide +kernel
theorem dX5_difference_9 : decode cX5_difference 9 = .ok (.iload_n 1, 1) := by decide +kernel
theorem dX5_difference_10 : decode cX5_difference 10 = .ok (.iload_n 2, 1) := by decide +kernel
theorem dX5_difference_11 : decode cX5_difference 11 = .ok (.if_icmp .le 6, 3) := by decide +kernel
theorem dX5_difference_14 : decode cX5_difference 14 = .ok (.ldc 116, 2) := by decide +kernel
theorem dX5_difference_16 : decode cX5_difference 16 = .ok (.ireturn, 1) := by decide +kernel
theorem dX5_difference_17 : decode cX5_difference 17 = .ok (.aload_n 0, 1) := by decide +kernel
theorem dX5_difference_18 : decode cX5_difference 18 = .ok (.getfield 19, 3) := by decide +kernel
theorem dX5_difference_21 : decode cX5_difference 21 = .ok (.aload_n 0, 1) := by decide +kernel
theorem dX5_difference_22 : decode cX5_difference 22 = .ok (.getfield 11, 3) := by decide +kernel
theorem dX5_difference_25 : decode cX5_difference 25 = .ok (.iload_n 1, 1) := by decide +kernel
theorem dX5_difference_26 : decode cX5_difference 26 = .ok (.aaload, 1) := by decide +kernel
theorem dX5_difference_27 : decode cX5_difference 27 = .ok (.aload_n 0, 1) := by decide +kernel
theorem dX5_difference_28 : decode cX5_difference 28 = .ok (.getfield 11, 3) := by decide +kernel
theorem dX5_difference_31 : decode cX5_difference 31 = .ok (.iload_n 2, 1) := by decide +kernel
theorem dX5_difference_32 : decode cX5_difference 32 = .ok (.aaload, 1) := by decide +kernel
theorem dX5_difference_33 : decode cX5_difference 33 = .ok (.invokevirtual 117, 3) := by decide +kernel
theorem dX5_difference_36 : decode cX5_difference 36 = .ok (.ireturn, 1) := by decide +kernel
theorem dX5_net_0 : decode cX5_net 0 = .ok (.aload_n 0, 1) := by decide +kernel
theorem dX5_net_1 : decode cX5_net 1 = .ok (.invokevirtual 121, 3) := by decide +kernel
theorem dX5_net_4 : decode cX5_net 4 = .ok (.iload_n 1, 1) := by decide +kernel
theorem dX5_net_5 : decode cX5_net 5 = .ok (.tableswitch 51 0 2 #[27, 35, 43], 27) := by decide +kernel
theorem dX5_net_32 : decode cX5_net 32 = .ok (.aload_n 0, 1) := by decide +kernel
theorem dX5_net_33 : decode cX5_net 33 = .ok (.getfield 26, 3) := by decide +kernel
theorem dX5_net_36 : decode cX5_net 36 = .ok (.getfield 124, 3) := by decide +kernel
theorem dX5_net_39 : decode cX5_net 39 = .ok (.ireturn, 1) := by decide +kernel
theorem dX5_net_40 : decode cX5_net 40 = .ok (.aload_n 0, 1) := by decide +kernel
theorem dX5_net_41 : decode cX5_net 41 = .ok (.getfield 26, 3) := by decide +kernel
theorem dX5_net_44 : decode cX5_net 44 = .ok (.getfield 127, 3) := by decide +kernel
theorem dX5_net_47 : decode cX5_net 47 = .ok (.ireturn, 1) := by decide +kernel
theorem dX5_net_48 : decode cX5_net 48 = .ok (.aload_n 0, 1) := by decide +kernel
theorem dX5_net_49 : decode cX5_net 49 = .ok (.getfield 26, 3) := by decide +kernel
theorem dX5_net_52 : decode cX5_net 52 = .ok (.getfield 130, 3) := by decide +kernel
theorem dX5_net_55 : decode cX5_net 55 = .ok (.ireturn, 1) := by decide +kernel
theorem dX5_net_56 : decode cX5_net 56 = .ok (.iconst (-1), 1) := by decide +kernel
theorem dX5_net_57 : decode cX5_net 57 = .ok (.ireturn, 1) := by decide +kernel
theorem dX5_off_0 : decode cX5_off 0 = .ok (.aload_n 0, 1) := by decide +kernel
theorem dX5_off_1 : decode cX5_off 1 = .ok (.iload_n 1, 1) := by decide +kernel
theorem dX5_off_2 : decode cX5_off 2 = .ok (.invokevirtual 69, 3) := by decide +kernel
theorem dX5_off_5 : decode cX5_off 5 = .ok (.ifCond .eq 10, 3) := by decide +kernel
theorem dX5_off_8 : decode cX5_off 8 = .ok (.iload_n 2, 1) := by decide +kernel
theorem dX5_off_9 : decode cX5_off 9 = .ok (.invokestatic 84, 3) := by decide +kernel
theorem dX5_off_12 : decode cX5_off 12 = .ok (.ifCond .ne 7, 3) := by decide +kernel
theorem dX5_off_15 : decode cX5_off 15 = .ok (.ldc2_w 102, 3) := by decide +kernel
theorem dX5_off_18 : decode cX5_off 18 = .ok (.lreturn, 1) := by decide +kernel
theorem dX5_off_19 : decode cX5_off 19 = .ok (.aload_n 0, 1) := by decide +kernel
theorem dX5_off_20 : decode cX5_off 20 = .ok (.invokevirtual 121, 3) := by decide +kernel
theorem dX5_off_23 : decode cX5_off 23 = .ok (.aload_n 0, 1) := by decide +kernel
theorem dX5_off_24 : decode cX5_off 24 = .ok (.getfield 26, 3) := by decide +kernel
theorem dX5_off_27 : decode cX5_off 27 = .ok (.getfield 133, 3) := by decide +kernel
theorem dX5_off_30 : decode cX5_off 30 = .ok (.iload_n 1, 1) := by decide +kernel
theorem dX5_off_31 : decode cX5_off 31 = .ok (.aaload, 1) := by decide +kernel
theorem dX5_off_32 : decode cX5_off 32 = .ok (.iload_n 2, 1) := by decide +kernel
theorem dX5_off_33 : decode cX5_off 33 = .ok (.invokevirtual 112, 3) := by decide +kernel
theorem dX5_off_36 : decode cX5_off 36 = .ok (.lreturn, 1) := by decide +kernel
theorem dX5_before_0 : decode cX5_before 0 = .ok (.aload_n 0, 1) := by decide +kernel
theorem dX5_before_1 : decode cX5_before 1 = .ok (.invokevirtual 121, 3) := by decide +kernel
theorem dX5_before_4 : decode cX5_before 4 = .ok (.aload_n 0, 1) := by decide +kernel
theorem dX5_before_5 : decode cX5_before 5 = .ok (.getfield 26, 3) := by decide +kernel
theorem dX5_before_8 : decode cX5_before 8 = .ok (.getfield 137, 3) := by decide +kernel
theorem dX5_before_11 : decode cX5_before 11 = .ok (.lreturn, 1) := by decide +kernel
theorem dX5_behind_0 : decode cX5_behind 0 = .ok (.aload_n 0, 1) := by decide +kernel
theorem dX5_behind_1 : decode cX5_behind 1 = .ok (.invokevirtual 121, 3) := by decide +kernel
theorem dX5_behind_4 : decode cX5_behind 4 = .ok (.aload_n 0, 1) := by decide +kernel
theorem dX5_behind_5 : decode cX5_behind 5 = .ok (.getfield 26, 3) := by decide +kernel
theorem dX5_behind_8 : decode cX5_behind 8 = .ok (.invokevirtual 140, 3) := by decide +kernel
theorem dX5_behind_11 : decode cX5_behind 11 = .ok (.lreturn, 1) := by decide +kernel
theorem dX5_loop_0 : decode cX5_loop 0 = .ok (.aload_n 0, 1) := by decide +kernel
theorem dX5_loop_1 : decode cX5_loop 1 = .ok (.iload_n 1, 1) := by decide +kernel
theorem dX5_loop_2 : decode cX5_loop 2 = .ok (.invokevirtual 69, 3) := by decide +kernel
theorem dX5_loop_5 : decode cX5_loop 5 = .ok (.ifCond .eq 29, 3) := by decide +kernel
theorem dX5_loop_8 : decode cX5_loop 8 = .ok (.aload_n 0, 1) := by decide +kernel
theorem dX5_loop_9 : decode cX5_loop 9 = .ok (.iload_n 2, 1) := by decide +kernel
theorem dX5_loop_10 : decode cX5_loop 10 = .ok (.invokevirtual 69, 3) := by decide +kernel
theorem dX5_loop_13 : decode cX5_loop 13 = .ok (.ifCond .eq 21, 3) := by decide +kernel
theorem dX5_loop_16 : decode cX5_loop 16 = .ok (.aload_n 0, 1) := by decide +kernel
theorem dX5_loop_17 : decode cX5_loop 17 = .ok (.iload_n 3, 1) := by decide +kernel
theorem dX5_loop_18 : decode cX5_loop 18 = .ok (.invokevirtual 69, 3) := by decide +kernel
theorem dX5_loop_21 : decode cX5_loop 21 = .ok (.ifCond .eq 13, 3) := by decide +kernel
theorem dX5_loop_24 : decode cX5_loop 24 = .ok (.iload_n 1, 1) := by decide +kernel
theorem dX5_loop_25 : decode cX5_loop 25 = .ok (.iload_n 2, 1) := by decide +kernel
theorem dX5_loop_26 : decode cX5_loop 26 = .ok (.if_icmp .ge 8, 3) := by decide +kernel
theorem dX5_loop_29 : decode cX5_loop 29 = .ok (.iload_n 2, 1) := by decide +kernel
theorem dX5_loop_30 : decode cX5_loop 30 = .ok (.iload_n 3, 1) := by decide +kernel
theorem dX5_loop_31 : decode cX5_loop 31 = .ok (.if_icmp .lt 6, 3) := by decide +kernel
theorem dX5_loop_34 : decode cX5_loop 34 = .ok (.ldc 116, 2) := by decide +kernel
theorem dX5_loop_36 : decode cX5_loop 36 = .ok (.ireturn, 1) := by decide +kernel
theorem dX5_loop_37 : decode cX5_loop 37 = .ok (.aload_n 0, 1) := by decide +kernel
theorem dX5_loop_38 : decode cX5_loop 38 = .ok (.getfield 19, 3) := by decide +kernel
theorem dX5_loop_41 : decode cX5_loop 41 = .ok (.aload_n 0, 1) := by decide +kernel
theorem dX5_loop_42 : decode cX5_loop 42 = .ok (.getfield 11, 3) := by decide +kernel
theorem dX5_loop_45 : decode cX5_loop 45 = .ok (.iload_n 1, 1) := by decide +kernel
theorem dX5_loop_46 : decode cX5_loop 46 = .ok (.aaload, 1) := by decide +kernel
theorem dX5_loop_47 : decode cX5_loop 47 = .ok (.aload_n 0, 1) := by decide +kernel
theorem dX5_loop_48 : decode cX5_loop 48 = .ok (.getfield 11, 3) := by decide +kernel
theorem dX5_loop_51 : decode cX5_loop 51 = .ok (.iload_n 2, 1) := by decide +kernel
theorem dX5_loop_52 : decode cX5_loop 52 = .ok (.aaload, 1) := by decide +kernel
theorem dX5_loop_53 : decode cX5_loop 53 = .ok (.invokevirtual 117, 3) := by decide +kernel
theorem dX5_loop_56 : decode cX5_loop 56 = .ok (.istore 4, 2) := by decide +kernel
theorem dX5_loop_58 : decode cX5_loop 58 = .ok (.aload_n 0, 1) := by decide +kernel
theorem dX5_loop_59 : decode cX5_loop 59 = .ok (.getfield 19, 3) := by decide +kernel
theorem dX5_loop_62 : decode cX5_loop 62 = .ok (.aload_n 0, 1) := by decide +kernel
theorem dX5_loop_63 : decode cX5_loop 63 = .ok (.getfield 11, 3) := by decide +kernel
theorem dX5_loop_66 : decode cX5_loop 66 = .ok (.iload_n 2, 1) := by decide +kernel
theorem dX5_loop_67 : decode cX5_loop 67 = .ok (.aaload, 1) := by decide +kernel
theorem dX5_loop_68 : decode cX5_loop 68 = .ok (.aload_n 0, 1) := by decide +kernel
theorem dX5_loop_69 : decode cX5_loop 69 = .ok (.getfield 11, 3) := by decide +kernel
theorem dX5_loop_72 : decode cX5_loop 72 = .ok (.iload_n 3, 1) := by decide +kernel
theorem dX5_loop_73 : decode cX5_loop 73 = .ok (.aaload, 1) := by decide +kernel
theorem dX5_loop_74 : decode cX5_loop 74 = .ok (.invokevirtual 117, 3) := by decide +kernel
theorem dX5_loop_77 : decode cX5_loop 77 = .ok (.istore 5, 2) := by decide +kernel
theorem dX5_loop_79 : decode cX5_loop 79 = .ok (.aload_n 0, 1) := by decide +kernel
theorem dX5_loop_80 : decode cX5_loop 80 = .ok (.getfield 19, 3) := by decide +kernel
theorem dX5_loop_83 : decode cX5_loop 83 = .ok (.aload_n 0, 1) := by decide +kernel
theorem dX5_loop_84 : decode cX5_loop 84 = .ok (.getfield 11, 3) := by decide +kernel
theorem dX5_loop_87 : decode cX5_loop 87 = .ok (.iload_n 1, 1) := by decide +kernel
theorem dX5_loop_88 : decode cX5_loop 88 = .ok (.aaload, 1) := by decide +kernel
theorem dX5_loop_89 : decode cX5_loop 89 = .ok (.aload_n 0, 1) := by decide +kernel
theorem dX5_loop_90 : decode cX5_loop 90 = .ok (.getfield 11, 3) := by decide +kernel
theorem dX5_loop_93 : decode cX5_loop 93 = .ok (.iload_n 3, 1) := by decide +kernel
theorem dX5_loop_94 : decode cX5_loop 94 = .ok (.aaload, 1) := by decide +kernel
theorem dX5_loop_95 : decode cX5_loop 95 = .ok (.invokevirtual 117, 3) := by decide +kernel
theorem dX5_loop_98 : decode cX5_loop 98 = .ok (.istore 6, 2) := by decide +kernel
theorem dX5_loop_100 : decode cX5_loop 100 = .ok (.iload 4, 2) := by decide +kernel
theorem dX5_loop_102 : decode cX5_loop 102 = .ok (.ldc 144, 2) := by decide +kernel
theorem dX5_loop_104 : decode cX5_loop 104 = .ok (.if_icmp .eq 17, 3) := by decide +kernel
theorem dX5_loop_107 : decode cX5_loop 107 = .ok (.iload 5, 2) := by decide +kernel
theorem dX5_loop_109 : decode cX5_loop 109 = .ok (.ldc 144, 2) := by decide +kernel
theorem dX5_loop_111 : decode cX5_loop 111 = .ok (.if_icmp .eq 10, 3) := by decide +kernel
theorem dX5_loop_114 : decode cX5_loop 114 = .ok (.iload 6, 2) := by decide +kernel
theorem dX5_loop_116 : decode cX5_loop 116 = .ok (.ldc 144, 2) := by decide +kernel
theorem dX5_loop_118 : decode cX5_loop 118 = .ok (.if_icmp .ne 6, 3) := by decide +kernel
theorem dX5_loop_121 : decode cX5_loop 121 = .ok (.ldc 144, 2) := by decide +kernel
theorem dX5_loop_123 : decode cX5_loop 123 = .ok (.ireturn, 1) := by decide +kernel
theorem dX5_loop_124 : decode cX5_loop 124 = .ok (.iload 4, 2) := by decide +kernel
theorem dX5_loop_126 : decode cX5_loop 126 = .ok (.iload 5, 2) := by decide +kernel
theorem dX5_loop_128 : decode cX5_loop 128 = .ok (.iadd, 1) := by decide +kernel
theorem dX5_loop_129 : decode cX5_loop 129 = .ok (.iload 6, 2) := by decide +kernel
theorem dX5_loop_131 : decode cX5_loop 131 = .ok (.isub, 1) := by decide +kernel
theorem dX5_loop_132 : decode cX5_loop 132 = .ok (.ireturn, 1) := by decide +kernel
theorem dX5_tone_0 : decode cX5_tone 0 = .ok (.iload_n 1, 1) := by decide +kernel
theorem dX5_tone_1 : decode cX5_tone 1 = .ok (.iconst 1, 1) := by decide +kernel
theorem dX5_tone_2 : decode cX5_tone 2 = .ok (.ldc 56, 2) := by decide +kernel
theorem dX5_tone_4 : decode cX5_tone 4 = .ok (.invokestatic 57, 3) := by decide +kernel
theorem dX5_tone_7 : decode cX5_tone 7 = .ok (.ifCond .ne 5, 3) := by decide +kernel
theorem dX5_tone_10 : decode cX5_tone 10 = .ok (.iconst (-1), 1) := by decide +kernel
theorem dX5_tone_11 : decode cX5_tone 11 = .ok (.ireturn, 1) := by decide +kernel
theorem dX5_tone_12 : decode cX5_tone 12 = .ok (.aload_n 0, 1) := by decide +kernel
theorem dX5_tone_13 : decode cX5_tone 13 = .ok (.getfield 33, 3) := by decide +kernel
theorem dX5_tone_16 : decode cX5_tone 16 = .ok (.getfield 145, 3) := by decide +kernel
theorem dX5_tone_19 : decode cX5_tone 19 = .ok (.bipush 6, 2) := by decide +kernel
theorem dX5_tone_21 : decode cX5_tone 21 = .ok (.if_icmp .lt 6, 3) := by decide +kernel
theorem dX5_tone_24 : decode cX5_tone 24 = .ok (.bipush (-3), 2) := by decide +kernel
theorem dX5_tone_26 : decode cX5_tone 26 = .ok (.ireturn, 1) := by decide +kernel
theorem dX5_tone_27 : decode cX5_tone 27 = .ok (.aload_n 0, 1) := by decide +kernel
theorem dX5_tone_28 : decode cX5_tone 28 = .ok (.getfield 33, 3) := by decide +kernel
theorem dX5_tone_31 : decode cX5_tone 31 = .ok (.getfield 148, 3) := by decide +kernel
theorem dX5_tone_34 : decode cX5_tone 34 = .ok (.aload_n 0, 1) := by decide +kernel
theorem dX5_tone_35 : decode cX5_tone 35 = .ok (.getfield 33, 3) := by decide +kernel
theorem dX5_tone_38 : decode cX5_tone 38 = .ok (.getfield 145, 3) := by decide +kernel
theorem dX5_tone_41 : decode cX5_tone 41 = .ok (.iload_n 1, 1) := by decide +kernel
theorem dX5_tone_42 : decode cX5_tone 42 = .ok (.iastore, 1) := by decide +kernel
theorem dX5_tone_43 : decode cX5_tone 43 = .ok (.aload_n 0, 1) := by decide +kernel
theorem dX5_tone_44 : decode cX5_tone 44 = .ok (.getfield 33, 3) := by decide +kernel
theorem dX5_tone_47 : decode cX5_tone 47 = .ok (.dup, 1) := by decide +kernel
theorem dX5_tone_48 : decode cX5_tone 48 = .ok (.getfield 145, 3) := by decide +kernel
theorem dX5_tone_51 : decode cX5_tone 51 = .ok (.iconst 1, 1) := by decide +kernel
theorem dX5_tone_52 : decode cX5_tone 52 = .ok (.iadd, 1) := by decide +kernel
theorem dX5_tone_53 : decode cX5_tone 53 = .ok (.putfield 145, 3) := by decide +kernel
theorem dX5_tone_56 : decode cX5_tone 56 = .ok (.aload_n 0, 1) := by decide +kernel
theorem dX5_tone_57 : decode cX5_tone 57 = .ok (.getfield 33, 3) := by decide +kernel
theorem dX5_tone_60 : decode cX5_tone 60 = .ok (.getfield 145, 3) := by decide +kernel
theorem dX5_tone_63 : decode cX5_tone 63 = .ok (.iconst 1, 1) := by decide +kernel
theorem dX5_tone_64 : decode cX5_tone 64 = .ok (.isub, 1) := by decide +kernel
theorem dX5_tone_65 : decode cX5_tone 65 = .ok (.ireturn, 1) := by decide +kernel
theorem dX5_seen_0 : decode cX5_seen 0 = .ok (.aload_n 0, 1) := by decide +kernel
theorem dX5_seen_1 : decode cX5_seen 1 = .ok (.getfield 33, 3) := by decide +kernel
theorem dX5_seen_4 : decode cX5_seen 4 = .ok (.iload_n 1, 1) := by decide +kernel
theorem dX5_seen_5 : decode cX5_seen 5 = .ok (.invokevirtual 151, 3) := by decide +kernel
theorem dX5_seen_8 : decode cX5_seen 8 = .ok (.ifCond .eq 20, 3) := by decide +kernel
theorem dX5_seen_11 : decode cX5_seen 11 = .ok (.iload_n 2, 1) := by decide +kernel
theorem dX5_seen_12 : decode cX5_seen 12 = .ok (.iconst 1, 1) := by decide +kernel
theorem dX5_seen_13 : decode cX5_seen 13 = .ok (.ldc 56, 2) := by decide +kernel
theorem dX5_seen_15 : decode cX5_seen 15 = .ok (.invokestatic 57, 3) := by decide +kernel
theorem dX5_seen_18 : decode cX5_seen 18 = .ok (.ifCond .eq 10, 3) := by decide +kernel
theorem dX5_seen_21 : decode cX5_seen 21 = .ok (.iload_n 3, 1) := by decide +kernel
theorem dX5_seen_22 : decode cX5_seen 22 = .ok (.invokestatic 84, 3) := by decide +kernel
theorem dX5_seen_25 : decode cX5_seen 25 = .ok (.ifCond .ne 7, 3) := by decide +kernel
theorem dX5_seen_28 : decode cX5_seen 28 = .ok (.ldc2_w 154, 3) := by decide +kernel
theorem dX5_seen_31 : decode cX5_seen 31 = .ok (.lreturn, 1) := by decide +kernel
theorem dX5_seen_32 : decode cX5_seen 32 = .ok (.aload_n 0, 1) := by decide +kernel
theorem dX5_seen_33 : decode cX5_seen 33 = .ok (.getfield 33, 3) := by decide +kernel
theorem dX5_seen_36 : decode cX5_seen 36 = .ok (.iload_n 1, 1) := by decide +kernel
theorem dX5_seen_37 : decode cX5_seen 37 = .ok (.iload_n 2, 1) := by decide +kernel
theorem dX5_seen_38 : decode cX5_seen 38 = .ok (.invokevirtual 156, 3) := by decide +kernel
theorem dX5_seen_41 : decode cX5_seen 41 = .ok (.lstore 4, 2) := by decide +kernel
theorem dX5_seen_43 : decode cX5_seen 43 = .ok (.lload 4, 2) := by decide +kernel
theorem dX5_seen_45 : decode cX5_seen 45 = .ok (.lconst 0, 1) := by decide +kernel
theorem dX5_seen_46 : decode cX5_seen 46 = .ok (.lcmp, 1) := by decide +kernel
theorem dX5_seen_47 : decode cX5_seen 47 = .ok (.ifCond .ne 7, 3) := by decide +kernel
theorem dX5_seen_50 : decode cX5_seen 50 = .ok (.ldc2_w 160, 3) := by decide +kernel
theorem dX5_seen_53 : decode cX5_seen 53 = .ok (.lreturn, 1) := by decide +kernel
theorem dX5_seen_54 : decode cX5_seen 54 = .ok (.aload_n 0, 1) := by decide +kernel
theorem dX5_seen_55 : decode cX5_seen 55 = .ok (.getfield 40, 3) := by decide +kernel
theorem dX5_seen_58 : decode cX5_seen 58 = .ok (.aload_n 0, 1) := by decide +kernel
theorem dX5_seen_59 : decode cX5_seen 59 = .ok (.getfield 33, 3) := by decide +kernel
theorem dX5_seen_62 : decode cX5_seen 62 = .ok (.getfield 148, 3) := by decide +kernel
theorem dX5_seen_65 : decode cX5_seen 65 = .ok (.iload_n 1, 1) := by decide +kernel
theorem dX5_seen_66 : decode cX5_seen 66 = .ok (.iaload, 1) := by decide +kernel
theorem dX5_seen_67 : decode cX5_seen 67 = .ok (.i2l, 1) := by decide +kernel
theorem dX5_seen_68 : decode cX5_seen 68 = .ok (.iload_n 2, 1) := by decide +kernel
theorem dX5_seen_69 : decode cX5_seen 69 = .ok (.i2l, 1) := by decide +kernel
theorem dX5_seen_70 : decode cX5_seen 70 = .ok (.lmul, 1) := by decide +kernel
theorem dX5_seen_71 : decode cX5_seen 71 = .ok (.ldc2_w 162, 3) := by decide +kernel
theorem dX5_seen_74 : decode cX5_seen 74 = .ok (.lload 4, 2) := by decide +kernel
theorem dX5_seen_76 : decode cX5_seen 76 = .ok (.lmul, 1) := by decide +kernel
theorem dX5_seen_77 : decode cX5_seen 77 = .ok (.invokevirtual 108, 3) := by decide +kernel
theorem dX5_seen_80 : decode cX5_seen 80 = .ok (.aload_n 0, 1) := by decide +kernel
theorem dX5_seen_81 : decode cX5_seen 81 = .ok (.getfield 40, 3) := by decide +kernel
theorem dX5_seen_84 : decode cX5_seen 84 = .ok (.iload_n 3, 1) := by decide +kernel
theorem dX5_seen_85 : decode cX5_seen 85 = .ok (.invokevirtual 112, 3) := by decide +kernel
theorem dX5_seen_88 : decode cX5_seen 88 = .ok (.lreturn, 1) := by decide +kernel
theorem dX5_apart_0 : decode cX5_apart 0 = .ok (.aload_n 0, 1) := by decide +kernel
theorem dX5_apart_1 : decode cX5_apart 1 = .ok (.getfield 33, 3) := by decide +kernel
theorem dX5_apart_4 : decode cX5_apart 4 = .ok (.iload_n 1, 1) := by decide +kernel
theorem dX5_apart_5 : decode cX5_apart 5 = .ok (.invokevirtual 151, 3) := by decide +kernel
theorem dX5_apart_8 : decode cX5_apart 8 = .ok (.ifCond .eq 23, 3) := by decide +kernel
theorem dX5_apart_11 : decode cX5_apart 11 = .ok (.aload_n 0, 1) := by decide +kernel
theorem dX5_apart_12 : decode cX5_apart 12 = .ok (.getfield 33, 3) := by decide +kernel
theorem dX5_apart_15 : decode cX5_apart 15 = .ok (.iload_n 2, 1) := by decide +kernel
theorem dX5_apart_16 : decode cX5_apart 16 = .ok (.invokevirtual 151, 3) := by decide +kernel
theorem dX5_apart_19 : decode cX5_apart 19 = .ok (.ifCond .eq 12, 3) := by decide +kernel
theorem dX5_apart_22 : decode cX5_apart 22 = .ok (.iload_n 1, 1) := by decide +kernel
theorem dX5_apart_23 : decode cX5_apart 23 = .ok (.iload_n 2, 1) := by decide +kernel
theorem dX5_apart_24 : decode cX5_apart 24 = .ok (.if_icmp .eq 7, 3) := by decide +kernel
theorem dX5_apart_27 : decode cX5_apart 27 = .ok (.iconst 1, 1) := by decide +kernel
theorem dX5_apart_28 : decode cX5_apart 28 = .ok (.goto 4, 3) := by decide +kernel
theorem dX5_apart_31 : decode cX5_apart 31 = .ok (.iconst 0, 1) := by decide +kernel
theorem dX5_apart_32 : decode cX5_apart 32 = .ok (.istore 5, 2) := by decide +kernel
theorem dX5_apart_34 : decode cX5_apart 34 = .ok (.iload 5, 2) := by decide +kernel
theorem dX5_apart_36 : decode cX5_apart 36 = .ok (.ifCond .eq 24, 3) := by decide +kernel
theorem dX5_apart_39 : decode cX5_apart 39 = .ok (.iload_n 3, 1) := by decide +kernel
theorem dX5_apart_40 : decode cX5_apart 40 = .ok (.iconst 1, 1) := by decide +kernel
theorem dX5_apart_41 : decode cX5_apart 41 = .ok (.ldc 56, 2) := by decide +kernel
theorem dX5_apart_43 : decode cX5_apart 43 = .ok (.invokestatic 57, 3) := by decide +kernel
theorem dX5_apart_46 : decode cX5_apart 46 = .ok (.ifCond .eq 14, 3) := by decide +kernel
theorem dX5_apart_49 : decode cX5_apart 49 = .ok (.iload 4, 2) := by decide +kernel
theorem dX5_apart_51 : decode cX5_apart 51 = .ok (.iconst 1, 1) := by decide +kernel
theorem dX5_apart_52 : decode cX5_apart 52 = .ok (.ldc 164, 2) := by decide +kernel
theorem dX5_apart_54 : decode cX5_apart 54 = .ok (.invokestatic 57, 3) := by decide +kernel
theorem dX5_apart_57 : decode cX5_apart 57 = .ok (.ifCond .ne 5, 3) := by decide +kernel
theorem dX5_apart_60 : decode cX5_apart 60 = .ok (.iconst (-1), 1) := by decide +kernel
theorem dX5_apart_61 : decode cX5_apart 61 = .ok (.ireturn, 1) := by decide +kernel
theorem dX5_apart_62 : decode cX5_apart 62 = .ok (.aload_n 0, 1) := by decide +kernel
theorem dX5_apart_63 : decode cX5_apart 63 = .ok (.getfield 33, 3) := by decide +kernel
theorem dX5_apart_66 : decode cX5_apart 66 = .ok (.iload_n 1, 1) := by decide +kernel
theorem dX5_apart_67 : decode cX5_apart 67 = .ok (.iload_n 2, 1) := by decide +kernel
theorem dX5_apart_68 : decode cX5_apart 68 = .ok (.iload_n 3, 1) := by decide +kernel
theorem dX5_apart_69 : decode cX5_apart 69 = .ok (.iload 4, 2) := by decide +kernel
theorem dX5_apart_71 : decode cX5_apart 71 = .ok (.invokevirtual 165, 3) := by decide +kernel
theorem dX5_apart_74 : decode cX5_apart 74 = .ok (.ifCond .eq 7, 3) := by decide +kernel
theorem dX5_apart_77 : decode cX5_apart 77 = .ok (.iconst 1, 1) := by decide +kernel
theorem dX5_apart_78 : decode cX5_apart 78 = .ok (.goto 4, 3) := by decide +kernel
theorem dX5_apart_81 : decode cX5_apart 81 = .ok (.iconst 0, 1) := by decide +kernel
theorem dX5_apart_82 : decode cX5_apart 82 = .ok (.ireturn, 1) := by decide +kernel
theorem dX5_box_0 : decode cX5_box 0 = .ok (.iload_n 1, 1) := by decide +kernel
theorem dX5_box_1 : decode cX5_box 1 = .ok (.iconst 1, 1) := by decide +kernel
theorem dX5_box_2 : decode cX5_box 2 = .ok (.bipush 50, 2) := by decide +kernel
theorem dX5_box_4 : decode cX5_box 4 = .ok (.invokestatic 57, 3) := by decide +kernel
theorem dX5_box_7 : decode cX5_box 7 = .ok (.ifCond .eq 29, 3) := by decide +kernel
theorem dX5_box_10 : decode cX5_box 10 = .ok (.iload_n 2, 1) := by decide +kernel
theorem dX5_box_11 : decode cX5_box 11 = .ok (.bipush (-100), 2) := by decide +kernel
theorem dX5_box_13 : decode cX5_box 13 = .ok (.bipush 100, 2) := by decide +kernel
theorem dX5_box_15 : decode cX5_box 15 = .ok (.invokestatic 57, 3) := by decide +kernel
theorem dX5_box_18 : decode cX5_box 18 = .ok (.ifCond .eq 18, 3) := by decide +kernel
theorem dX5_box_21 : decode cX5_box 21 = .ok (.iload_n 3, 1) := by decide +kernel
theorem dX5_box_22 : decode cX5_box 22 = .ok (.bipush (-100), 2) := by decide +kernel
theorem dX5_box_24 : decode cX5_box 24 = .ok (.bipush 100, 2) := by decide +kernel
theorem dX5_box_26 : decode cX5_box 26 = .ok (.invokestatic 57, 3) := by decide +kernel
theorem dX5_box_29 : decode cX5_box 29 = .ok (.ifCond .eq 7, 3) := by decide +kernel
theorem dX5_box_32 : decode cX5_box 32 = .ok (.iconst 1, 1) := by decide +kernel
theorem dX5_box_33 : decode cX5_box 33 = .ok (.goto 4, 3) := by decide +kernel
theorem dX5_box_36 : decode cX5_box 36 = .ok (.iconst 0, 1) := by decide +kernel
theorem dX5_box_37 : decode cX5_box 37 = .ok (.istore 5, 2) := by decide +kernel
theorem dX5_box_39 : decode cX5_box 39 = .ok (.iload 5, 2) := by decide +kernel
theorem dX5_box_41 : decode cX5_box 41 = .ok (.ifCond .eq 13, 3) := by decide +kernel
theorem dX5_box_44 : decode cX5_box 44 = .ok (.iload 4, 2) := by decide +kernel
theorem dX5_box_46 : decode cX5_box 46 = .ok (.iconst 0, 1) := by decide +kernel
theorem dX5_box_47 : decode cX5_box 47 = .ok (.iconst 1, 1) := by decide +kernel
theorem dX5_box_48 : decode cX5_box 48 = .ok (.invokestatic 57, 3) := by decide +kernel
theorem dX5_box_51 : decode cX5_box 51 = .ok (.ifCond .ne 7, 3) := by decide +kernel
theorem dX5_box_54 : decode cX5_box 54 = .ok (.ldc2_w 102, 3) := by decide +kernel
theorem dX5_box_57 : decode cX5_box 57 = .ok (.lreturn, 1) := by decide +kernel
theorem dX5_box_58 : decode cX5_box 58 = .ok (.aload_n 0, 1) := by decide +kernel
theorem dX5_box_59 : decode cX5_box 59 = .ok (.invokevirtual 121, 3) := by decide +kernel
theorem dX5_box_62 : decode cX5_box 62 = .ok (.lconst 0, 1) := by decide +kernel
theorem dX5_box_63 : decode cX5_box 63 = .ok (.lstore 6, 2) := by decide +kernel
theorem dX5_box_65 : decode cX5_box 65 = .ok (.lconst 0, 1) := by decide +kernel
theorem dX5_box_66 : decode cX5_box 66 = .ok (.lstore 8, 2) := by decide +kernel
theorem dX5_box_68 : decode cX5_box 68 = .ok (.iconst 0, 1) := by decide +kernel
theorem dX5_box_69 : decode cX5_box 69 = .ok (.istore 10, 2) := by decide +kernel
theorem dX5_box_71 : decode cX5_box 71 = .ok (.iload 10, 2) := by decide +kernel
theorem dX5_box_73 : decode cX5_box 73 = .ok (.aload_n 0, 1) := by decide +kernel
theorem dX5_box_74 : decode cX5_box 74 = .ok (.getfield 44, 3) := by decide +kernel
theorem dX5_box_77 : decode cX5_box 77 = .ok (.if_icmp .ge 84, 3) := by decide +kernel
theorem dX5_box_80 : decode cX5_box 80 = .ok (.aload_n 0, 1) := by decide +kernel
theorem dX5_box_81 : decode cX5_box 81 = .ok (.getfield 11, 3) := by decide +kernel
theorem dX5_box_84 : decode cX5_box 84 = .ok (.iload 10, 2) := by decide +kernel
theorem dX5_box_86 : decode cX5_box 86 = .ok (.aaload, 1) := by decide +kernel
theorem dX5_box_87 : decode cX5_box 87 = .ok (.getfield 77, 3) := by decide +kernel
theorem dX5_box_90 : decode cX5_box 90 = .ok (.ifCond .ne 65, 3) := by decide +kernel
theorem dX5_box_93 : decode cX5_box 93 = .ok (.aload_n 0, 1) := by decide +kernel
theorem dX5_box_94 : decode cX5_box 94 = .ok (.getfield 11, 3) := by decide +kernel
theorem dX5_box_97 : decode cX5_box 97 = .ok (.iload 10, 2) := by decide +kernel
theorem dX5_box_99 : decode cX5_box 99 = .ok (.aaload, 1) := by decide +kernel
theorem dX5_box_100 : decode cX5_box 100 = .ok (.iload_n 1, 1) := by decide +kernel
theorem dX5_box_101 : decode cX5_box 101 = .ok (.iload_n 2, 1) := by decide +kernel
theorem dX5_box_102 : decode cX5_box 102 = .ok (.iload_n 3, 1) := by decide +kernel
theorem dX5_box_103 : decode cX5_box 103 = .ok (.invokevirtual 169, 3) := by decide +kernel
theorem dX5_box_106 : decode cX5_box 106 = .ok (.i2l, 1) := by decide +kernel
theorem dX5_box_107 : decode cX5_box 107 = .ok (.lstore 11, 2) := by decide +kernel
theorem dX5_box_109 : decode cX5_box 109 = .ok (.lload 6, 2) := by decide +kernel
theorem dX5_box_111 : decode cX5_box 111 = .ok (.lload 11, 2) := by decide +kernel
theorem dX5_box_113 : decode cX5_box 113 = .ok (.ladd, 1) := by decide +kernel
theorem dX5_box_114 : decode cX5_box 114 = .ok (.lstore 6, 2) := by decide +kernel
theorem dX5_box_116 : decode cX5_box 116 = .ok (.lload 8, 2) := by decide +kernel
theorem dX5_box_118 : decode cX5_box 118 = .ok (.ldc2_w 173, 3) := by decide +kernel
theorem dX5_box_121 : decode cX5_box 121 = .ok (.aload_n 0, 1) := by decide +kernel
theorem dX5_box_122 : decode cX5_box 122 = .ok (.getfield 11, 3) := by decide +kernel
theorem dX5_box_125 : decode cX5_box 125 = .ok (.iload 10, 2) := by decide +kernel
theorem dX5_box_127 : decode cX5_box 127 = .ok (.aaload, 1) := by decide +kernel
theorem dX5_box_128 : decode cX5_box 128 = .ok (.iload_n 1, 1) := by decide +kernel
theorem dX5_box_129 : decode cX5_box 129 = .ok (.iload_n 2, 1) := by decide +kernel
theorem dX5_box_130 : decode cX5_box 130 = .ok (.iload_n 3, 1) := by decide +kernel
theorem dX5_box_131 : decode cX5_box 131 = .ok (.invokevirtual 175, 3) := by decide +kernel
theorem dX5_box_134 : decode cX5_box 134 = .ok (.lmul, 1) := by decide +kernel
theorem dX5_box_135 : decode cX5_box 135 = .ok (.lload 11, 2) := by decide +kernel
theorem dX5_box_137 : decode cX5_box 137 = .ok (.aload_n 0, 1) := by decide +kernel
theorem dX5_box_138 : decode cX5_box 138 = .ok (.getfield 26, 3) := by decide +kernel
theorem dX5_box_141 : decode cX5_box 141 = .ok (.getfield 133, 3) := by decide +kernel
theorem dX5_box_144 : decode cX5_box 144 = .ok (.iload 10, 2) := by decide +kernel
theorem dX5_box_146 : decode cX5_box 146 = .ok (.aaload, 1) := by decide +kernel
theorem dX5_box_147 : decode cX5_box 147 = .ok (.invokevirtual 179, 3) := by decide +kernel
theorem dX5_box_150 : decode cX5_box 150 = .ok (.lmul, 1) := by decide +kernel
theorem dX5_box_151 : decode cX5_box 151 = .ok (.lsub, 1) := by decide +kernel
theorem dX5_box_152 : decode cX5_box 152 = .ok (.ladd, 1) := by decide +kernel
theorem dX5_box_153 : decode cX5_box 153 = .ok (.lstore 8, 2) := by decide +kernel
theorem dX5_box_155 : decode cX5_box 155 = .ok (.iinc 10 1, 3) := by decide +kernel
theorem dX5_box_158 : decode cX5_box 158 = .ok (.goto (-87), 3) := by decide +kernel
theorem dX5_box_161 : decode cX5_box 161 = .ok (.iload 4, 2) := by decide +kernel
theorem dX5_box_163 : decode cX5_box 163 = .ok (.ifCond .ne 8, 3) := by decide +kernel
theorem dX5_box_166 : decode cX5_box 166 = .ok (.lload 6, 2) := by decide +kernel
theorem dX5_box_168 : decode cX5_box 168 = .ok (.goto 5, 3) := by decide +kernel
theorem dX5_box_171 : decode cX5_box 171 = .ok (.lload 8, 2) := by decide +kernel
theorem dX5_box_173 : decode cX5_box 173 = .ok (.lreturn, 1) := by decide +kernel
theorem dX5_count_0 : decode cX5_count 0 = .ok (.iload_n 1, 1) := by decide +kernel
theorem dX5_count_1 : decode cX5_count 1 = .ok (.tableswitch 54 0 3 #[31, 36, 41, 49], 31) := by decide +kernel
theorem dX5_count_32 : decode cX5_count 32 = .ok (.aload_n 0, 1) := by decide +kernel
theorem dX5_count_33 : decode cX5_count 33 = .ok (.getfield 44, 3) := by decide +kernel
theorem dX5_count_36 : decode cX5_count 36 = .ok (.ireturn, 1) := by decide +kernel
theorem dX5_count_37 : decode cX5_count 37 = .ok (.aload_n 0, 1) := by decide +kernel
theorem dX5_count_38 : decode cX5_count 38 = .ok (.invokevirtual 182, 3) := by decide +kernel
theorem dX5_count_41 : decode cX5_count 41 = .ok (.ireturn, 1) := by decide +kernel
theorem dX5_count_42 : decode cX5_count 42 = .ok (.aload_n 0, 1) := by decide +kernel
theorem dX5_count_43 : decode cX5_count 43 = .ok (.getfield 33, 3) := by decide +kernel
theorem dX5_count_46 : decode cX5_count 46 = .ok (.getfield 145, 3) := by decide +kernel
theorem dX5_count_49 : decode cX5_count 49 = .ok (.ireturn, 1) := by decide +kernel
theorem dX5_count_50 : decode cX5_count 50 = .ok (.aload_n 0, 1) := by decide +kernel
theorem dX5_count_51 : decode cX5_count 51 = .ok (.invokevirtual 186, 3) := by decide +kernel
theorem dX5_count_54 : decode cX5_count 54 = .ok (.ireturn, 1) := by decide +kernel
theorem dX5_count_55 : decode cX5_count 55 = .ok (.iconst (-1), 1) := by decide +kernel
theorem dX5_count_56 : decode cX5_count 56 = .ok (.ireturn, 1) := by decide +kernel
theorem dX5_countReadings_0 : decode cX5_countReadings 0 = .ok (.iconst 0, 1) := by decide +kernel
theorem dX5_countReadings_1 : decode cX5_countReadings 1 = .ok (.istore_n 1, 1) := by decide +kernel
theorem dX5_countReadings_2 : decode cX5_countReadings 2 = .ok (.iconst 0, 1) := by decide +kernel
theorem dX5_countReadings_3 : decode cX5_countReadings 3 = .ok (.istore_n 2, 1) := by decide +kernel
theorem dX5_countReadings_4 : decode cX5_countReadings 4 = .ok (.iload_n 2, 1) := by decide +kernel
theorem dX5_countReadings_5 : decode cX5_countReadings 5 = .ok (.aload_n 0, 1) := by decide +kernel
theorem dX5_countReadings_6 : decode cX5_countReadings 6 = .ok (.getfield 44, 3) := by decide +kernel
theorem dX5_countReadings_9 : decode cX5_countReadings 9 = .ok (.if_icmp .ge 42, 3) := by decide +kernel
theorem dX5_countReadings_12 : decode cX5_countReadings 12 = .ok (.iconst 0, 1) := by decide +kernel
theorem dX5_countReadings_13 : decode cX5_countReadings 13 = .ok (.istore_n 3, 1) := by decide +kernel
theorem dX5_countReadings_14 : decode cX5_countReadings 14 = .ok (.iload_n 3, 1) := by decide +kernel
theorem dX5_countReadings_15 : decode cX5_countReadings 15 = .ok (.bipush 9, 2) := by decide +kernel
theorem dX5_countReadings_17 : decode cX5_countReadings 17 = .ok (.if_icmp .ge 28, 3) := by decide +kernel
theorem dX5_countReadings_20 : decode cX5_countReadings 20 = .ok (.aload_n 0, 1) := by decide +kernel
theorem dX5_countReadings_21 : decode cX5_countReadings 21 = .ok (.getfield 11, 3) := by decide +kernel
theorem dX5_countReadings_24 : decode cX5_countReadings 24 = .ok (.iload_n 2, 1) := by decide +kernel
theorem dX5_countReadings_25 : decode cX5_countReadings 25 = .ok (.aaload, 1) := by decide +kernel
theorem dX5_countReadings_26 : decode cX5_countReadings 26 = .ok (.getfield 73, 3) := by decide +kernel
theorem dX5_countReadings_29 : decode cX5_countReadings 29 = .ok (.iload_n 3, 1) := by decide +kernel
theorem dX5_countReadings_30 : decode cX5_countReadings 30 = .ok (.iaload, 1) := by decide +kernel
theorem dX5_countReadings_31 : decode cX5_countReadings 31 = .ok (.ldc 68, 2) := by decide +kernel
theorem dX5_countReadings_33 : decode cX5_countReadings 33 = .ok (.if_icmp .eq 6, 3) := by decide +kernel
theorem dX5_countReadings_36 : decode cX5_countReadings 36 = .ok (.iinc 1 1, 3) := by decide +kernel
theorem dX5_countReadings_39 : decode cX5_countReadings 39 = .ok (.iinc 3 1, 3) := by decide +kernel
theorem dX5_countReadings_42 : decode cX5_countReadings 42 = .ok (.goto (-28), 3) := by decide +kernel
theorem dX5_countReadings_45 : decode cX5_countReadings 45 = .ok (.iinc 2 1, 3) := by decide +kernel
theorem dX5_countReadings_48 : decode cX5_countReadings 48 = .ok (.goto (-44), 3) := by decide +kernel
theorem dX5_countReadings_51 : decode cX5_countReadings 51 = .ok (.iload_n 1, 1) := by decide +kernel
theorem dX5_countReadings_52 : decode cX5_countReadings 52 = .ok (.ireturn, 1) := by decide +kernel
theorem dX5_countHeldOut_0 : decode cX5_countHeldOut 0 = .ok (.iconst 0, 1) := by decide +kernel
theorem dX5_countHeldOut_1 : decode cX5_countHeldOut 1 = .ok (.istore_n 1, 1) := by decide +kernel
theorem dX5_countHeldOut_2 : decode cX5_countHeldOut 2 = .ok (.iconst 0, 1) := by decide +kernel
theorem dX5_countHeldOut_3 : decode cX5_countHeldOut 3 = .ok (.istore_n 2, 1) := by decide +kernel
theorem dX5_countHeldOut_4 : decode cX5_countHeldOut 4 = .ok (.iload_n 2, 1) := by decide +kernel
theorem dX5_countHeldOut_5 : decode cX5_countHeldOut 5 = .ok (.aload_n 0, 1) := by decide +kernel
theorem dX5_countHeldOut_6 : decode cX5_countHeldOut 6 = .ok (.getfield 44, 3) := by decide +kernel
theorem dX5_countHeldOut_9 : decode cX5_countHeldOut 9 = .ok (.if_icmp .ge 24, 3) := by decide +kernel
theorem dX5_countHeldOut_12 : decode cX5_countHeldOut 12 = .ok (.aload_n 0, 1) := by decide +kernel
theorem dX5_countHeldOut_13 : decode cX5_countHeldOut 13 = .ok (.getfield 11, 3) := by decide +kernel
theorem dX5_countHeldOut_16 : decode cX5_countHeldOut 16 = .ok (.iload_n 2, 1) := by decide +kernel
theorem dX5_countHeldOut_17 : decode cX5_countHeldOut 17 = .ok (.aaload, 1) := by decide +kernel
theorem dX5_countHeldOut_18 : decode cX5_countHeldOut 18 = .ok (.getfield 77, 3) := by decide +kernel
theorem dX5_countHeldOut_21 : decode cX5_countHeldOut 21 = .ok (.ifCond .eq 6, 3) := by decide +kernel
theorem dX5_countHeldOut_24 : decode cX5_countHeldOut 24 = .ok (.iinc 1 1, 3) := by decide +kernel
theorem dX5_countHeldOut_27 : decode cX5_countHeldOut 27 = .ok (.iinc 2 1, 3) := by decide +kernel
theorem dX5_countHeldOut_30 : decode cX5_countHeldOut 30 = .ok (.goto (-26), 3) := by decide +kernel
theorem dX5_countHeldOut_33 : decode cX5_countHeldOut 33 = .ok (.iload_n 1, 1) := by decide +kernel
theorem dX5_countHeldOut_34 : decode cX5_countHeldOut 34 = .ok (.ireturn, 1) := by decide +kernel
theorem dX5_bringClosingUpToDate_0 : decode cX5_bringClosingUpToDate 0 = .ok (.aload_n 0, 1) := by decide +kernel
theorem dX5_bringClosingUpToDate_1 : decode cX5_bringClosingUpToDate 1 = .ok (.getfield 48, 3) := by decide +kernel
theorem dX5_bringClosingUpToDate_4 : decode cX5_bringClosingUpToDate 4 = .ok (.ifCond .eq 27, 3) := by decide +kernel
theorem dX5_bringClosingUpToDate_7 : decode cX5_bringClosingUpToDate 7 = .ok (.aload_n 0, 1) := by decide +kernel
theorem dX5_bringClosingUpToDate_8 : decode cX5_bringClosingUpToDate 8 = .ok (.getfield 26, 3) := by decide +kernel
theorem dX5_bringClosingUpToDate_11 : decode cX5_bringClosingUpToDate 11 = .ok (.aload_n 0, 1) := by decide +kernel
theorem dX5_bringClosingUpToDate_12 : decode cX5_bringClosingUpToDate 12 = .ok (.getfield 11, 3) := by decide +kernel
theorem dX5_bringClosingUpToDate_15 : decode cX5_bringClosingUpToDate 15 = .ok (.aload_n 0, 1) := by decide +kernel
theorem dX5_bringClosingUpToDate_16 : decode cX5_bringClosingUpToDate 16 = .ok (.getfield 44, 3) := by decide +kernel
theorem dX5_bringClosingUpToDate_19 : decode cX5_bringClosingUpToDate 19 = .ok (.aload_n 0, 1) := by decide +kernel
theorem dX5_bringClosingUpToDate_20 : decode cX5_bringClosingUpToDate 20 = .ok (.getfield 19, 3) := by decide +kernel
theorem dX5_bringClosingUpToDate_23 : decode cX5_bringClosingUpToDate 23 = .ok (.invokevirtual 189, 3) := by decide +kernel
theorem dX5_bringClosingUpToDate_26 : decode cX5_bringClosingUpToDate 26 = .ok (.aload_n 0, 1) := by decide +kernel
theorem dX5_bringClosingUpToDate_27 : decode cX5_bringClosingUpToDate 27 = .ok (.iconst 0, 1) := by decide +kernel
theorem dX5_bringClosingUpToDate_28 : decode cX5_bringClosingUpToDate 28 = .ok (.putfield 48, 3) := by decide +kernel
theorem dX5_bringClosingUpToDate_31 : decode cX5_bringClosingUpToDate 31 = .ok (.return_, 1) := by decide +kernel
theorem dX5_isTrack_0 : decode cX5_isTrack 0 = .ok (.iload_n 1, 1) := by decide +kernel
theorem dX5_isTrack_1 : decode cX5_isTrack 1 = .ok (.ifCond .lt 15, 3) := by decide +kernel
theorem dX5_isTrack_4 : decode cX5_isTrack 4 = .ok (.iload_n 1, 1) := by decide +kernel
theorem dX5_isTrack_5 : decode cX5_isTrack 5 = .ok (.aload_n 0, 1) := by decide +kernel
theorem dX5_isTrack_6 : decode cX5_isTrack 6 = .ok (.getfield 44, 3) := by decide +kernel
theorem dX5_isTrack_9 : decode cX5_isTrack 9 = .ok (.if_icmp .ge 7, 3) := by decide +kernel
theorem dX5_isTrack_12 : decode cX5_isTrack 12 = .ok (.iconst 1, 1) := by decide +kernel
theorem dX5_isTrack_13 : decode cX5_isTrack 13 = .ok (.goto 4, 3) := by decide +kernel
theorem dX5_isTrack_16 : decode cX5_isTrack 16 = .ok (.iconst 0, 1) := by decide +kernel
theorem dX5_isTrack_17 : decode cX5_isTrack 17 = .ok (.ireturn, 1) := by decide +kernel
theorem dX5_areTwoTracks_0 : decode cX5_areTwoTracks 0 = .ok (.aload_n 0, 1) := by decide +kernel
theorem dX5_areTwoTracks_1 : decode cX5_areTwoTracks 1 = .ok (.iload_n 1, 1) := by decide +kernel
theorem dX5_areTwoTracks_2 : decode cX5_areTwoTracks 2 = .ok (.invokevirtual 69, 3) := by decide +kernel
theorem dX5_areTwoTracks_5 : decode cX5_areTwoTracks 5 = .ok (.ifCond .eq 20, 3) := by decide +kernel
theorem dX5_areTwoTracks_8 : decode cX5_areTwoTracks 8 = .ok (.aload_n 0, 1) := by decide +kernel
theorem dX5_areTwoTracks_9 : decode cX5_areTwoTracks 9 = .ok (.iload_n 2, 1) := by decide +kernel
theorem dX5_areTwoTracks_10 : decode cX5_areTwoTracks 10 = .ok (.invokevirtual 69, 3) := by decide +kernel
theorem dX5_areTwoTracks_13 : decode cX5_areTwoTracks 13 = .ok (.ifCond .eq 12, 3) := by decide +kernel
theorem dX5_areTwoTracks_16 : decode cX5_areTwoTracks 16 = .ok (.iload_n 1, 1) := by decide +kernel
theorem dX5_areTwoTracks_17 : decode cX5_areTwoTracks 17 = .ok (.iload_n 2, 1) := by decide +kernel
theorem dX5_areTwoTracks_18 : decode cX5_areTwoTracks 18 = .ok (.if_icmp .eq 7, 3) := by decide +kernel
theorem dX5_areTwoTracks_21 : decode cX5_areTwoTracks 21 = .ok (.iconst 1, 1) := by decide +kernel
theorem dX5_areTwoTracks_22 : decode cX5_areTwoTracks 22 = .ok (.goto 4, 3) := by decide +kernel
theorem dX5_areTwoTracks_25 : decode cX5_areTwoTracks 25 = .ok (.iconst 0, 1) := by decide +kernel
theorem dX5_areTwoTracks_26 : decode cX5_areTwoTracks 26 = .ok (.ireturn, 1) := by decide +kernel
theorem dX5_isPart_0 : decode cX5_isPart 0 = .ok (.iload_n 0, 1) := by decide +kernel
theorem dX5_isPart_1 : decode cX5_isPart 1 = .ok (.ifCond .eq 8, 3) := by decide +kernel
theorem dX5_isPart_4 : decode cX5_isPart 4 = .ok (.iload_n 0, 1) := by decide +kernel
theorem dX5_isPart_5 : decode cX5_isPart 5 = .ok (.iconst 1, 1) := by decide +kernel
theorem dX5_isPart_6 : decode cX5_isPart 6 = .ok (.if_icmp .ne 7, 3) := by decide +kernel
theorem dX5_isPart_9 : decode cX5_isPart 9 = .ok (.iconst 1, 1) := by decide +kernel
theorem dX5_isPart_10 : decode cX5_isPart 10 = .ok (.goto 4, 3) := by decide +kernel
theorem dX5_isPart_13 : decode cX5_isPart 13 = .ok (.iconst 0, 1) := by decide +kernel
theorem dX5_isPart_14 : decode cX5_isPart 14 = .ok (.ireturn, 1) := by decide +kernel
theorem dX5_isOnMap_0 : decode cX5_isOnMap 0 = .ok (.iload_n 0, 1) := by decide +kernel
theorem dX5_isOnMap_1 : decode cX5_isOnMap 1 = .ok (.bipush (-100), 2) := by decide +kernel
theorem dX5_isOnMap_3 : decode cX5_isOnMap 3 = .ok (.bipush 100, 2) := by decide +kernel
theorem dX5_isOnMap_5 : decode cX5_isOnMap 5 = .ok (.invokestatic 57, 3) := by decide +kernel
theorem dX5_isOnMap_8 : decode cX5_isOnMap 8 = .ok (.ireturn, 1) := by decide +kernel
theorem dX5_isWithin_0 : decode cX5_isWithin 0 = .ok (.iload_n 0, 1) := by decide +kernel
theorem dX5_isWithin_1 : decode cX5_isWithin 1 = .ok (.iload_n 1, 1) := by decide +kernel
theorem dX5_isWithin_2 : decode cX5_isWithin 2 = .ok (.if_icmp .lt 12, 3) := by decide +kernel
theorem dX5_isWithin_5 : decode cX5_isWithin 5 = .ok (.iload_n 0, 1) := by decide +kernel
theorem dX5_isWithin_6 : decode cX5_isWithin 6 = .ok (.iload_n 2, 1) := by decide +kernel
theorem dX5_isWithin_7 : decode cX5_isWithin 7 = .ok (.if_icmp .gt 7, 3) := by decide +kernel
theorem dX5_isWithin_10 : decode cX5_isWithin 10 = .ok (.iconst 1, 1) := by decide +kernel
theorem dX5_isWithin_11 : decode cX5_isWithin 11 = .ok (.goto 4, 3) := by decide +kernel
theorem dX5_isWithin_14 : decode cX5_isWithin 14 = .ok (.iconst 0, 1) := by decide +kernel
theorem dX5_isWithin_15 : decode cX5_isWithin 15 = .ok (.ireturn, 1) := by decide +kernel
theorem dJ9_floorDiv_7cf53_0 : decode cJ9_floorDiv_7cf53 0 = .ok (.iload_n 0, 1) := by decide +kernel
theorem dJ9_floorDiv_7cf53_1 : decode cJ9_floorDiv_7cf53 1 = .ok (.iload_n 1, 1) := by decide +kernel
theorem dJ9_floorDiv_7cf53_2 : decode cJ9_floorDiv_7cf53 2 = .ok (.idiv, 1) := by decide +kernel
theorem dJ9_floorDiv_7cf53_3 : decode cJ9_floorDiv_7cf53 3 = .ok (.istore_n 2, 1) := by decide +kernel
theorem dJ9_floorDiv_7cf53_4 : decode cJ9_floorDiv_7cf53 4 = .ok (.iload_n 0, 1) := by decide +kernel
theorem dJ9_floorDiv_7cf53_5 : decode cJ9_floorDiv_7cf53 5 = .ok (.iload_n 1, 1) := by decide +kernel
theorem dJ9_floorDiv_7cf53_6 : decode cJ9_floorDiv_7cf53 6 = .ok (.ixor, 1) := by decide +kernel
theorem dJ9_floorDiv_7cf53_7 : decode cJ9_floorDiv_7cf53 7 = .ok (.ifCond .ge 14, 3) := by decide +kernel
theorem dJ9_floorDiv_7cf53_10 : decode cJ9_floorDiv_7cf53 10 = .ok (.iload_n 2, 1) := by decide +kernel
theorem dJ9_floorDiv_7cf53_11 : decode cJ9_floorDiv_7cf53 11 = .ok (.iload_n 1, 1) := by decide +kernel
theorem dJ9_floorDiv_7cf53_12 : decode cJ9_floorDiv_7cf53 12 = .ok (.imul, 1) := by decide +kernel
theorem dJ9_floorDiv_7cf53_13 : decode cJ9_floorDiv_7cf53 13 = .ok (.iload_n 0, 1) := by decide +kernel
theorem dJ9_floorDiv_7cf53_14 : decode cJ9_floorDiv_7cf53 14 = .ok (.if_icmp .eq 7, 3) := by decide +kernel
theorem dJ9_floorDiv_7cf53_17 : decode cJ9_floorDiv_7cf53 17 = .ok (.iload_n 2, 1) := by decide +kernel
theorem dJ9_floorDiv_7cf53_18 : decode cJ9_floorDiv_7cf53 18 = .ok (.iconst 1, 1) := by decide +kernel
theorem dJ9_floorDiv_7cf53_19 : decode cJ9_floorDiv_7cf53 19 = .ok (.isub, 1) := by decide +kernel
theorem dJ9_floorDiv_7cf53_20 : decode cJ9_floorDiv_7cf53 20 = .ok (.ireturn, 1) := by decide +kernel
theorem dJ9_floorDiv_7cf53_21 : decode cJ9_floorDiv_7cf53 21 = .ok (.iload_n 2, 1) := by decide +kernel
theorem dJ9_floorDiv_7cf53_22 : decode cJ9_floorDiv_7cf53 22 = .ok (.ireturn, 1) := by decide +kernel
theorem dJ9_floorDiv_f86c9_0 : decode cJ9_floorDiv_f86c9 0 = .ok (.lload_n 0, 1) := by decide +kernel
theorem dJ9_floorDiv_f86c9_1 : decode cJ9_floorDiv_f86c9 1 = .ok (.lload_n 2, 1) := by decide +kernel
theorem dJ9_floorDiv_f86c9_2 : decode cJ9_floorDiv_f86c9 2 = .ok (.ldiv, 1) := by decide +kernel
theorem dJ9_floorDiv_f86c9_3 : decode cJ9_floorDiv_f86c9 3 = .ok (.lstore 4, 2) := by decide +kernel
theorem dJ9_floorDiv_f86c9_5 : decode cJ9_floorDiv_f86c9 5 = .ok (.lload_n 0, 1) := by decide +kernel
theorem dJ9_floorDiv_f86c9_6 : decode cJ9_floorDiv_f86c9 6 = .ok (.lload_n 2, 1) := by decide +kernel
theorem dJ9_floorDiv_f86c9_7 : decode cJ9_floorDiv_f86c9 7 = .ok (.lxor, 1) := by decide +kernel
theorem dJ9_floorDiv_f86c9_8 : decode cJ9_floorDiv_f86c9 8 = .ok (.lconst 0, 1) := by decide +kernel
theorem dJ9_floorDiv_f86c9_9 : decode cJ9_floorDiv_f86c9 9 = .ok (.lcmp, 1) := by decide +kernel
theorem dJ9_floorDiv_f86c9_10 : decode cJ9_floorDiv_f86c9 10 = .ok (.ifCond .ge 17, 3) := by decide +kernel
theorem dJ9_floorDiv_f86c9_13 : decode cJ9_floorDiv_f86c9 13 = .ok (.lload 4, 2) := by decide +kernel
theorem dJ9_floorDiv_f86c9_15 : decode cJ9_floorDiv_f86c9 15 = .ok (.lload_n 2, 1) := by decide +kernel
theorem dJ9_floorDiv_f86c9_16 : decode cJ9_floorDiv_f86c9 16 = .ok (.lmul, 1) := by decide +kernel
theorem dJ9_floorDiv_f86c9_17 : decode cJ9_floorDiv_f86c9 17 = .ok (.lload_n 0, 1) := by decide +kernel
theorem dJ9_floorDiv_f86c9_18 : decode cJ9_floorDiv_f86c9 18 = .ok (.lcmp, 1) := by decide +kernel
theorem dJ9_floorDiv_f86c9_19 : decode cJ9_floorDiv_f86c9 19 = .ok (.ifCond .eq 8, 3) := by decide +kernel
theorem dJ9_floorDiv_f86c9_22 : decode cJ9_floorDiv_f86c9 22 = .ok (.lload 4, 2) := by decide +kernel
theorem dJ9_floorDiv_f86c9_24 : decode cJ9_floorDiv_f86c9 24 = .ok (.lconst 1, 1) := by decide +kernel
theorem dJ9_floorDiv_f86c9_25 : decode cJ9_floorDiv_f86c9 25 = .ok (.lsub, 1) := by decide +kernel
theorem dJ9_floorDiv_f86c9_26 : decode cJ9_floorDiv_f86c9 26 = .ok (.lreturn, 1) := by decide +kernel
theorem dJ9_floorDiv_f86c9_27 : decode cJ9_floorDiv_f86c9 27 = .ok (.lload 4, 2) := by decide +kernel
theorem dJ9_floorDiv_f86c9_29 : decode cJ9_floorDiv_f86c9 29 = .ok (.lreturn, 1) := by decide +kernel
theorem dJ9_abs_067f4_0 : decode cJ9_abs_067f4 0 = .ok (.lload_n 0, 1) := by decide +kernel
theorem dJ9_abs_067f4_1 : decode cJ9_abs_067f4 1 = .ok (.lconst 0, 1) := by decide +kernel
theorem dJ9_abs_067f4_2 : decode cJ9_abs_067f4 2 = .ok (.lcmp, 1) := by decide +kernel
theorem dJ9_abs_067f4_3 : decode cJ9_abs_067f4 3 = .ok (.ifCond .ge 8, 3) := by decide +kernel
theorem dJ9_abs_067f4_6 : decode cJ9_abs_067f4 6 = .ok (.lload_n 0, 1) := by decide +kernel
theorem dJ9_abs_067f4_7 : decode cJ9_abs_067f4 7 = .ok (.lneg, 1) := by decide +kernel
theorem dJ9_abs_067f4_8 : decode cJ9_abs_067f4 8 = .ok (.goto 4, 3) := by decide +kernel
theorem dJ9_abs_067f4_11 : decode cJ9_abs_067f4 11 = .ok (.lload_n 0, 1) := by decide +kernel
theorem dJ9_abs_067f4_12 : decode cJ9_abs_067f4 12 = .ok (.lreturn, 1) := by decide +kernel
theorem dJ9_max_7cf53_0 : decode cJ9_max_7cf53 0 = .ok (.iload_n 0, 1) := by decide +kernel
theorem dJ9_max_7cf53_1 : decode cJ9_max_7cf53 1 = .ok (.iload_n 1, 1) := by decide +kernel
theorem dJ9_max_7cf53_2 : decode cJ9_max_7cf53 2 = .ok (.if_icmp .lt 7, 3) := by decide +kernel
theorem dJ9_max_7cf53_5 : decode cJ9_max_7cf53 5 = .ok (.iload_n 0, 1) := by decide +kernel
theorem dJ9_max_7cf53_6 : decode cJ9_max_7cf53 6 = .ok (.goto 4, 3) := by decide +kernel
theorem dJ9_max_7cf53_9 : decode cJ9_max_7cf53 9 = .ok (.iload_n 1, 1) := by decide +kernel
theorem dJ9_max_7cf53_10 : decode cJ9_max_7cf53 10 = .ok (.ireturn, 1) := by decide +kernel
theorem dJ9_min_7cf53_0 : decode cJ9_min_7cf53 0 = .ok (.iload_n 0, 1) := by decide +kernel
theorem dJ9_min_7cf53_1 : decode cJ9_min_7cf53 1 = .ok (.iload_n 1, 1) := by decide +kernel
theorem dJ9_min_7cf53_2 : decode cJ9_min_7cf53 2 = .ok (.if_icmp .gt 7, 3) := by decide +kernel
theorem dJ9_min_7cf53_5 : decode cJ9_min_7cf53 5 = .ok (.iload_n 0, 1) := by decide +kernel
theorem dJ9_min_7cf53_6 : decode cJ9_min_7cf53 6 = .ok (.goto 4, 3) := by decide +kernel
theorem dJ9_min_7cf53_9 : decode cJ9_min_7cf53 9 = .ok (.iload_n 1, 1) := by decide +kernel
theorem dJ9_min_7cf53_10 : decode cJ9_min_7cf53 10 = .ok (.ireturn, 1) := by decide +kernel
end
section
theorem dX6_init_0 : decode cX6_init 0 = .ok (.aload_n 0, 1) := by decide +kernel
theorem dX6_init_1 : decode cX6_init 1 = .ok (.invokespecial 1, 3) := by decide +kernel
theorem dX6_init_4 : decode cX6_init 4 = .ok (.aload_n 0, 1) := by decide +kernel
theorem dX6_init_5 : decode cX6_init 5 = .ok (.bipush 48, 2) := by decide +kernel
theorem dX6_init_7 : decode cX6_init 7 = .ok (.newarray .int, 2) := by decide +kernel
theorem dX6_init_9 : decode cX6_init 9 = .ok (.putfield 7, 3) := by decide +kernel
theorem dX6_init_12 : decode cX6_init 12 = .ok (.aload_n 0, 1) := by decide +kernel
theorem dX6_init_13 : decode cX6_init 13 = .ok (.bipush 72, 2) := by decide +kernel
theorem dX6_init_15 : decode cX6_init 15 = .ok (.newarray .int, 2) := by decide +kernel
theorem dX6_init_17 : decode cX6_init 17 = .ok (.putfield 13, 3) := by decide +kernel
theorem dX6_init_20 : decode cX6_init 20 = .ok (.aload_n 0, 1) := by decide +kernel
theorem dX6_init_21 : decode cX6_init 21 = .ok (.bipush 8, 2) := by decide +kernel
theorem dX6_init_23 : decode cX6_init 23 = .ok (.newarray .boolean, 2) := by decide +kernel
theorem dX6_init_25 : decode cX6_init 25 = .ok (.putfield 16, 3) := by decide +kernel
theorem dX6_init_28 : decode cX6_init 28 = .ok (.aload_n 0, 1) := by decide +kernel
theorem dX6_init_29 : decode cX6_init 29 = .ok (.bipush 6, 2) := by decide +kernel
theorem dX6_init_31 : decode cX6_init 31 = .ok (.newarray .int, 2) := by decide +kernel
theorem dX6_init_33 : decode cX6_init 33 = .ok (.putfield 20, 3) := by decide +kernel
theorem dX6_init_36 : decode cX6_init 36 = .ok (.aload_n 0, 1) := by decide +kernel
theorem dX6_init_37 : decode cX6_init 37 = .ok (.bipush 8, 2) := by decide +kernel
theorem dX6_init_39 : decode cX6_init 39 = .ok (.newarray .int, 2) := by decide +kernel
theorem dX6_init_41 : decode cX6_init 41 = .ok (.putfield 23, 3) := by decide +kernel
theorem dX6_init_44 : decode cX6_init 44 = .ok (.aload_n 0, 1) := by decide +kernel
theorem dX6_init_45 : decode cX6_init 45 = .ok (.bipush 8, 2) := by decide +kernel
theorem dX6_init_47 : decode cX6_init 47 = .ok (.newarray .int, 2) := by decide +kernel
theorem dX6_init_49 : decode cX6_init 49 = .ok (.putfield 26, 3) := by decide +kernel
theorem dX6_init_52 : decode cX6_init 52 = .ok (.aload_n 0, 1) := by decide +kernel
theorem dX6_init_53 : decode cX6_init 53 = .ok (.bipush 64, 2) := by decide +kernel
theorem dX6_init_55 : decode cX6_init 55 = .ok (.newarray .long, 2) := by decide +kernel
theorem dX6_init_57 : decode cX6_init 57 = .ok (.putfield 29, 3) := by decide +kernel
theorem dX6_init_60 : decode cX6_init 60 = .ok (.aload_n 0, 1) := by decide +kernel
theorem dX6_init_61 : decode cX6_init 61 = .ok (.bipush 8, 2) := by decide +kernel
theorem dX6_init_63 : decode cX6_init 63 = .ok (.newarray .long, 2) := by decide +kernel
theorem dX6_init_65 : decode cX6_init 65 = .ok (.putfield 33, 3) := by decide +kernel
theorem dX6_init_68 : decode cX6_init 68 = .ok (.aload_n 0, 1) := by decide +kernel
theorem dX6_init_69 : decode cX6_init 69 = .ok (.bipush 8, 2) := by decide +kernel
theorem dX6_init_71 : decode cX6_init 71 = .ok (.newarray .long, 2) := by decide +kernel
theorem dX6_init_73 : decode cX6_init 73 = .ok (.putfield 36, 3) := by decide +kernel
theorem dX6_init_76 : decode cX6_init 76 = .ok (.iconst 0, 1) := by decide +kernel
theorem dX6_init_77 : decode cX6_init 77 = .ok (.istore_n 1, 1) := by decide +kernel
theorem dX6_init_78 : decode cX6_init 78 = .ok (.iload_n 1, 1) := by decide +kernel
theorem dX6_init_79 : decode cX6_init 79 = .ok (.bipush 72, 2) := by decide +kernel
theorem dX6_init_81 : decode cX6_init 81 = .ok (.if_icmp .ge 17, 3) := by decide +kernel
theorem dX6_init_84 : decode cX6_init 84 = .ok (.aload_n 0, 1) := by decide +kernel
theorem dX6_init_85 : decode cX6_init 85 = .ok (.getfield 13, 3) := by decide +kernel
theorem dX6_init_88 : decode cX6_init 88 = .ok (.iload_n 1, 1) := by decide +kernel
theorem dX6_init_89 : decode cX6_init 89 = .ok (.ldc 39, 2) := by decide +kernel
theorem dX6_init_91 : decode cX6_init 91 = .ok (.iastore, 1) := by decide +kernel
theorem dX6_init_92 : decode cX6_init 92 = .ok (.iinc 1 1, 3) := by decide +kernel
theorem dX6_init_95 : decode cX6_init 95 = .ok (.goto (-17), 3) := by decide +kernel
theorem dX6_init_98 : decode cX6_init 98 = .ok (.return_, 1) := by decide +kernel
theorem dX6_in_0 : decode cX6_in 0 = .ok (.lload_n 0, 1) := by decide +kernel
theorem dX6_in_1 : decode cX6_in 1 = .ok (.lload_n 2, 1) := by decide +kernel
theorem dX6_in_2 : decode cX6_in 2 = .ok (.lcmp, 1) := by decide +kernel
theorem dX6_in_3 : decode cX6_in 3 = .ok (.ifCond .lt 14, 3) := by decide +kernel
theorem dX6_in_6 : decode cX6_in 6 = .ok (.lload_n 0, 1) := by decide +kernel
theorem dX6_in_7 : decode cX6_in 7 = .ok (.lload 4, 2) := by decide +kernel
theorem dX6_in_9 : decode cX6_in 9 = .ok (.lcmp, 1) := by decide +kernel
theorem dX6_in_10 : decode cX6_in 10 = .ok (.ifCond .gt 7, 3) := by decide +kernel
theorem dX6_in_13 : decode cX6_in 13 = .ok (.iconst 1, 1) := by decide +kernel
theorem dX6_in_14 : decode cX6_in 14 = .ok (.goto 4, 3) := by decide +kernel
theorem dX6_in_17 : decode cX6_in 17 = .ok (.iconst 0, 1) := by decide +kernel
theorem dX6_in_18 : decode cX6_in 18 = .ok (.ireturn, 1) := by decide +kernel
theorem dX6_isTrack_0 : decode cX6_isTrack 0 = .ok (.iload_n 1, 1) := by decide +kernel
theorem dX6_isTrack_1 : decode cX6_isTrack 1 = .ok (.i2l, 1) := by decide +kernel
theorem dX6_isTrack_2 : decode cX6_isTrack 2 = .ok (.lconst 0, 1) := by decide +kernel
theorem dX6_isTrack_3 : decode cX6_isTrack 3 = .ok (.aload_n 0, 1) := by decide +kernel
theorem dX6_isTrack_4 : decode cX6_isTrack 4 = .ok (.getfield 40, 3) := by decide +kernel
theorem dX6_isTrack_7 : decode cX6_isTrack 7 = .ok (.iconst 1, 1) := by decide +kernel
theorem dX6_isTrack_8 : decode cX6_isTrack 8 = .ok (.isub, 1) := by decide +kernel
theorem dX6_isTrack_9 : decode cX6_isTrack 9 = .ok (.i2l, 1) := by decide +kernel
theorem dX6_isTrack_10 : decode cX6_isTrack 10 = .ok (.invokestatic 44, 3) := by decide +kernel
theorem dX6_isTrack_13 : decode cX6_isTrack 13 = .ok (.ireturn, 1) := by decide +kernel
theorem dX6_isSpot_0 : decode cX6_isSpot 0 = .ok (.iload_n 0, 1) := by decide +kernel
theorem dX6_isSpot_1 : decode cX6_isSpot 1 = .ok (.i2l, 1) := by decide +kernel
theorem dX6_isSpot_2 : decode cX6_isSpot 2 = .ok (.ldc2_w 48, 3) := by decide +kernel
theorem dX6_isSpot_5 : decode cX6_isSpot 5 = .ok (.ldc2_w 50, 3) := by decide +kernel
theorem dX6_isSpot_8 : decode cX6_isSpot 8 = .ok (.invokestatic 44, 3) := by decide +kernel
theorem dX6_isSpot_11 : decode cX6_isSpot 11 = .ok (.ifCond .eq 21, 3) := by decide +kernel
theorem dX6_isSpot_14 : decode cX6_isSpot 14 = .ok (.iload_n 1, 1) := by decide +kernel
theorem dX6_isSpot_15 : decode cX6_isSpot 15 = .ok (.i2l, 1) := by decide +kernel
theorem dX6_isSpot_16 : decode cX6_isSpot 16 = .ok (.ldc2_w 48, 3) := by decide +kernel
theorem dX6_isSpot_19 : decode cX6_isSpot 19 = .ok (.ldc2_w 50, 3) := by decide +kernel
theorem dX6_isSpot_22 : decode cX6_isSpot 22 = .ok (.invokestatic 44, 3) := by decide +kernel
theorem dX6_isSpot_25 : decode cX6_isSpot 25 = .ok (.ifCond .eq 7, 3) := by decide +kernel
theorem dX6_isSpot_28 : decode cX6_isSpot 28 = .ok (.iconst 1, 1) := by decide +kernel
theorem dX6_isSpot_29 : decode cX6_isSpot 29 = .ok (.goto 4, 3) := by decide +kernel
theorem dX6_isSpot_32 : decode cX6_isSpot 32 = .ok (.iconst 0, 1) := by decide +kernel
theorem dX6_isSpot_33 : decode cX6_isSpot 33 = .ok (.ireturn, 1) := by decide +kernel
theorem dX6_track_0 : decode cX6_track 0 = .ok (.iload_n 1, 1) := by decide +kernel
theorem dX6_track_1 : decode cX6_track 1 = .ok (.iload_n 2, 1) := by decide +kernel
theorem dX6_track_2 : decode cX6_track 2 = .ok (.invokestatic 52, 3) := by decide +kernel
theorem dX6_track_5 : decode cX6_track 5 = .ok (.ifCond .eq 56, 3) := by decide +kernel
theorem dX6_track_8 : decode cX6_track 8 = .ok (.iload_n 3, 1) := by decide +kernel
theorem dX6_track_9 : decode cX6_track 9 = .ok (.iload 4, 2) := by decide +kernel
theorem dX6_track_11 : decode cX6_track 11 = .ok (.invokestatic 52, 3) := by decide +kernel
theorem dX6_track_14 : decode cX6_track 14 = .ok (.ifCond .eq 47, 3) := by decide +kernel
theorem dX6_track_17 : decode cX6_track 17 = .ok (.iload 5, 2) := by decide +kernel
theorem dX6_track_19 : decode cX6_track 19 = .ok (.i2l, 1) := by decide +kernel
theorem dX6_track_20 : decode cX6_track 20 = .ok (.lconst 0, 1) := by decide +kernel
theorem dX6_track_21 : decode cX6_track 21 = .ok (.ldc2_w 56, 3) := by decide +kernel
theorem dX6_track_24 : decode cX6_track 24 = .ok (.invokestatic 44, 3) := by decide +kernel
theorem dX6_track_27 : decode cX6_track 27 = .ok (.ifCond .eq 34, 3) := by decide +kernel
theorem dX6_track_30 : decode cX6_track 30 = .ok (.iload 6, 2) := by decide +kernel
theorem dX6_track_32 : decode cX6_track 32 = .ok (.i2l, 1) := by decide +kernel
theorem dX6_track_33 : decode cX6_track 33 = .ok (.lconst 0, 1) := by decide +kernel
theorem dX6_track_34 : decode cX6_track 34 = .ok (.ldc2_w 56, 3) := by decide +kernel
theorem dX6_track_37 : decode cX6_track 37 = .ok (.invokestatic 44, 3) := by decide +kernel
theorem dX6_track_40 : decode cX6_track 40 = .ok (.ifCond .eq 21, 3) := by decide +kernel
theorem dX6_track_43 : decode cX6_track 43 = .ok (.iload 6, 2) := by decide +kernel
theorem dX6_track_45 : decode cX6_track 45 = .ok (.iload 5, 2) := by decide +kernel
theorem dX6_track_47 : decode cX6_track 47 = .ok (.if_icmp .le 14, 3) := by decide +kernel
theorem dX6_track_50 : decode cX6_track 50 = .ok (.iload_n 1, 1) := by decide +kernel
theorem dX6_track_51 : decode cX6_track 51 = .ok (.iload_n 3, 1) := by decide +kernel
theorem dX6_track_52 : decode cX6_track 52 = .ok (.if_icmp .ne 11, 3) := by decide +kernel
theorem dX6_track_55 : decode cX6_track 55 = .ok (.iload_n 2, 1) := by decide +kernel
theorem dX6_track_56 : decode cX6_track 56 = .ok (.iload 4, 2) := by decide +kernel
theorem dX6_track_58 : decode cX6_track 58 = .ok (.if_icmp .ne 5, 3) := by decide +kernel
theorem dX6_track_61 : decode cX6_track 61 = .ok (.iconst (-1), 1) := by decide +kernel
theorem dX6_track_62 : decode cX6_track 62 = .ok (.ireturn, 1) := by decide +kernel
theorem dX6_track_63 : decode cX6_track 63 = .ok (.aload_n 0, 1) := by decide +kernel
theorem dX6_track_64 : decode cX6_track 64 = .ok (.getfield 40, 3) := by decide +kernel
theorem dX6_track_67 : decode cX6_track 67 = .ok (.bipush 8, 2) := by decide +kernel
theorem dX6_track_69 : decode cX6_track 69 = .ok (.if_icmp .ne 6, 3) := by decide +kernel
theorem dX6_track_72 : decode cX6_track 72 = .ok (.bipush (-3), 2) := by decide +kernel
theorem dX6_track_74 : decode cX6_track 74 = .ok (.ireturn, 1) := by decide +kernel
theorem dX6_track_75 : decode cX6_track 75 = .ok (.aload_n 0, 1) := by decide +kernel
theorem dX6_track_76 : decode cX6_track 76 = .ok (.getfield 7, 3) := by decide +kernel
theorem dX6_track_79 : decode cX6_track 79 = .ok (.bipush 6, 2) := by decide +kernel
theorem dX6_track_81 : decode cX6_track 81 = .ok (.aload_n 0, 1) := by decide +kernel
theorem dX6_track_82 : decode cX6_track 82 = .ok (.getfield 40, 3) := by decide +kernel
theorem dX6_track_85 : decode cX6_track 85 = .ok (.imul, 1) := by decide +kernel
theorem dX6_track_86 : decode cX6_track 86 = .ok (.iload_n 1, 1) := by decide +kernel
theorem dX6_track_87 : decode cX6_track 87 = .ok (.iastore, 1) := by decide +kernel
theorem dX6_track_88 : decode cX6_track 88 = .ok (.aload_n 0, 1) := by decide +kernel
theorem dX6_track_89 : decode cX6_track 89 = .ok (.getfield 7, 3) := by decide +kernel
theorem dX6_track_92 : decode cX6_track 92 = .ok (.bipush 6, 2) := by decide +kernel
theorem dX6_track_94 : decode cX6_track 94 = .ok (.aload_n 0, 1) := by decide +kernel
theorem dX6_track_95 : decode cX6_track 95 = .ok (.getfield 40, 3) := by decide +kernel
theorem dX6_track_98 : decode cX6_track 98 = .ok (.imul, 1) := by decide +kernel
theorem dX6_track_99 : decode cX6_track 99 = .ok (.iconst 1, 1) := by decide +kernel
theorem dX6_track_100 : decode cX6_track 100 = .ok (.iadd, 1) := by decide +kernel
theorem dX6_track_101 : decode cX6_track 101 = .ok (.iload_n 2, 1) := by decide +kernel
theorem dX6_track_102 : decode cX6_track 102 = .ok (.iastore, 1) := by decide +kernel
theorem dX6_track_103 : decode cX6_track 103 = .ok (.aload_n 0, 1) := by decide +kernel
theorem dX6_track_104 : decode cX6_track 104 = .ok (.getfield 7, 3) := by decide +kernel
theorem dX6_track_107 : decode cX6_track 107 = .ok (.bipush 6, 2) := by decide +kernel
theorem dX6_track_109 : decode cX6_track 109 = .ok (.aload_n 0, 1) := by decide +kernel
theorem dX6_track_110 : decode cX6_track 110 = .ok (.getfield 40, 3) := by decide +kernel
theorem dX6_track_113 : decode cX6_track 113 = .ok (.imul, 1) := by decide +kernel
theorem dX6_track_114 : decode cX6_track 114 = .ok (.iconst 2, 1) := by decide +kernel
theorem dX6_track_115 : decode cX6_track 115 = .ok (.iadd, 1) := by decide +kernel
theorem dX6_track_116 : decode cX6_track 116 = .ok (.iload_n 3, 1) := by decide +kernel
theorem dX6_track_117 : decode cX6_track 117 = .ok (.iastore, 1) := by decide +kernel
theorem dX6_track_118 : decode cX6_track 118 = .ok (.aload_n 0, 1) := by decide +kernel
theorem dX6_track_119 : decode cX6_track 119 = .ok (.getfield 7, 3) := by decide +kernel
theorem dX6_track_122 : decode cX6_track 122 = .ok (.bipush 6, 2) := by decide +kernel
theorem dX6_track_124 : decode cX6_track 124 = .ok (.aload_n 0, 1) := by decide +kernel
theorem dX6_track_125 : decode cX6_track 125 = .ok (.getfield 40, 3) := by decide +kernel
theorem dX6_track_128 : decode cX6_track 128 = .ok (.imul, 1) := by decide +kernel
theorem dX6_track_129 : decode cX6_track 129 = .ok (.iconst 3, 1) := by decide +kernel
theorem dX6_track_130 : decode cX6_track 130 = .ok (.iadd, 1) := by decide +kernel
theorem dX6_track_131 : decode cX6_track 131 = .ok (.iload 4, 2) := by decide +kernel
theorem dX6_track_133 : decode cX6_track 133 = .ok (.iastore, 1) := by decide +kernel
theorem dX6_track_134 : decode cX6_track 134 = .ok (.aload_n 0, 1) := by decide +kernel
theorem dX6_track_135 : decode cX6_track 135 = .ok (.getfield 7, 3) := by decide +kernel
theorem dX6_track_138 : decode cX6_track 138 = .ok (.bipush 6, 2) := by decide +kernel
theorem dX6_track_140 : decode cX6_track 140 = .ok (.aload_n 0, 1) := by decide +kernel
theorem dX6_track_141 : decode cX6_track 141 = .ok (.getfield 40, 3) := by decide +kernel
theorem dX6_track_144 : decode cX6_track 144 = .ok (.imul, 1) := by decide +kernel
theorem dX6_track_145 : decode cX6_track 145 = .ok (.iconst 4, 1) := by decide +kernel
theorem dX6_track_146 : decode cX6_track 146 = .ok (.iadd, 1) := by decide +kernel
theorem dX6_track_147 : decode cX6_track 147 = .ok (.iload 5, 2) := by decide +kernel
theorem dX6_track_149 : decode cX6_track 149 = .ok (.iastore, 1) := by decide +kernel
theorem dX6_track_150 : decode cX6_track 150 = .ok (.aload_n 0, 1) := by decide +kernel
theorem dX6_track_151 : decode cX6_track 151 = .ok (.getfield 7, 3) := by decide +kernel
theorem dX6_track_154 : decode cX6_track 154 = .ok (.bipush 6, 2) := by decide +kernel
theorem dX6_track_156 : decode cX6_track 156 = .ok (.aload_n 0, 1) := by decide +kernel
theorem dX6_track_157 : decode cX6_track 157 = .ok (.getfield 40, 3) := by decide +kernel
theorem dX6_track_160 : decode cX6_track 160 = .ok (.imul, 1) := by decide +kernel
theorem dX6_track_161 : decode cX6_track 161 = .ok (.iconst 5, 1) := by decide +kernel
theorem dX6_track_162 : decode cX6_track 162 = .ok (.iadd, 1) := by decide +kernel
theorem dX6_track_163 : decode cX6_track 163 = .ok (.iload 6, 2) := by decide +kernel
theorem dX6_track_165 : decode cX6_track 165 = .ok (.iastore, 1) := by decide +kernel
theorem dX6_track_166 : decode cX6_track 166 = .ok (.aload_n 0, 1) := by decide +kernel
theorem dX6_track_167 : decode cX6_track 167 = .ok (.dup, 1) := by decide +kernel
theorem dX6_track_168 : decode cX6_track 168 = .ok (.getfield 40, 3) := by decide +kernel
theorem dX6_track_171 : decode cX6_track 171 = .ok (.iconst 1, 1) := by decide +kernel
theorem dX6_track_172 : decode cX6_track 172 = .ok (.iadd, 1) := by decide +kernel
theorem dX6_track_173 : decode cX6_track 173 = .ok (.putfield 40, 3) := by decide +kernel
theorem dX6_track_176 : decode cX6_track 176 = .ok (.aload_n 0, 1) := by decide +kernel
theorem dX6_track_177 : decode cX6_track 177 = .ok (.getfield 40, 3) := by decide +kernel
theorem dX6_track_180 : decode cX6_track 180 = .ok (.iconst 1, 1) := by decide +kernel
theorem dX6_track_181 : decode cX6_track 181 = .ok (.isub, 1) := by decide +kernel
theorem dX6_track_182 : decode cX6_track 182 = .ok (.ireturn, 1) := by decide +kernel
theorem dX6_read_0 : decode cX6_read 0 = .ok (.aload_n 0, 1) := by decide +kernel
theorem dX6_read_1 : decode cX6_read 1 = .ok (.iload_n 1, 1) := by decide +kernel
theorem dX6_read_2 : decode cX6_read 2 = .ok (.invokevirtual 58, 3) := by decide +kernel
theorem dX6_read_5 : decode cX6_read 5 = .ok (.ifCond .eq 35, 3) := by decide +kernel
theorem dX6_read_8 : decode cX6_read 8 = .ok (.iload_n 2, 1) := by decide +kernel
theorem dX6_read_9 : decode cX6_read 9 = .ok (.i2l, 1) := by decide +kernel
theorem dX6_read_10 : decode cX6_read 10 = .ok (.lconst 0, 1) := by decide +kernel
theorem dX6_read_11 : decode cX6_read 11 = .ok (.ldc2_w 62, 3) := by decide +kernel
theorem dX6_read_14 : decode cX6_read 14 = .ok (.invokestatic 44, 3) := by decide +kernel
theorem dX6_read_17 : decode cX6_read 17 = .ok (.ifCond .eq 23, 3) := by decide +kernel
theorem dX6_read_20 : decode cX6_read 20 = .ok (.iload_n 3, 1) := by decide +kernel
theorem dX6_read_21 : decode cX6_read 21 = .ok (.i2l, 1) := by decide +kernel
theorem dX6_read_22 : decode cX6_read 22 = .ok (.ldc2_w 64, 3) := by decide +kernel
theorem dX6_read_25 : decode cX6_read 25 = .ok (.ldc2_w 66, 3) := by decide +kernel
theorem dX6_read_28 : decode cX6_read 28 = .ok (.invokestatic 44, 3) := by decide +kernel
theorem dX6_read_31 : decode cX6_read 31 = .ok (.ifCond .ne 12, 3) := by decide +kernel
theorem dX6_read_34 : decode cX6_read 34 = .ok (.iload_n 3, 1) := by decide +kernel
theorem dX6_read_35 : decode cX6_read 35 = .ok (.ldc 39, 2) := by decide +kernel
theorem dX6_read_37 : decode cX6_read 37 = .ok (.if_icmp .eq 6, 3) := by decide +kernel
theorem dX6_read_40 : decode cX6_read 40 = .ok (.ldc 68, 2) := by decide +kernel
theorem dX6_read_42 : decode cX6_read 42 = .ok (.ireturn, 1) := by decide +kernel
theorem dX6_read_43 : decode cX6_read 43 = .ok (.aload_n 0, 1) := by decide +kernel
theorem dX6_read_44 : decode cX6_read 44 = .ok (.getfield 13, 3) := by decide +kernel
theorem dX6_read_47 : decode cX6_read 47 = .ok (.bipush 9, 2) := by decide +kernel
theorem dX6_read_49 : decode cX6_read 49 = .ok (.iload_n 1, 1) := by decide +kernel
theorem dX6_read_50 : decode cX6_read 50 = .ok (.imul, 1) := by decide +kernel
theorem dX6_read_51 : decode cX6_read 51 = .ok (.iload_n 2, 1) := by decide +kernel
theorem dX6_read_52 : decode cX6_read 52 = .ok (.iadd, 1) := by decide +kernel
theorem dX6_read_53 : decode cX6_read 53 = .ok (.iaload, 1) := by decide +kernel
theorem dX6_read_54 : decode cX6_read 54 = .ok (.istore 4, 2) := by decide +kernel
theorem dX6_read_56 : decode cX6_read 56 = .ok (.aload_n 0, 1) := by decide +kernel
theorem dX6_read_57 : decode cX6_read 57 = .ok (.getfield 13, 3) := by decide +kernel
theorem dX6_read_60 : decode cX6_read 60 = .ok (.bipush 9, 2) := by decide +kernel
theorem dX6_read_62 : decode cX6_read 62 = .ok (.iload_n 1, 1) := by decide +kernel
theorem dX6_read_63 : decode cX6_read 63 = .ok (.imul, 1) := by decide +kernel
theorem dX6_read_64 : decode cX6_read 64 = .ok (.iload_n 2, 1) := by decide +kernel
theorem dX6_read_65 : decode cX6_read 65 = .ok (.iadd, 1) := by decide +kernel
theorem dX6_read_66 : decode cX6_read 66 = .ok (.iload_n 3, 1) := by decide +kernel
theorem dX6_read_67 : decode cX6_read 67 = .ok (.iastore, 1) := by decide +kernel
theorem dX6_read_68 : decode cX6_read 68 = .ok (.iload 4, 2) := by decide +kernel
theorem dX6_read_70 : decode cX6_read 70 = .ok (.ireturn, 1) := by decide +kernel
theorem dX6_hold_0 : decode cX6_hold 0 = .ok (.aload_n 0, 1) := by decide +kernel
theorem dX6_hold_1 : decode cX6_hold 1 = .ok (.iload_n 1, 1) := by decide +kernel
theorem dX6_hold_2 : decode cX6_hold 2 = .ok (.invokevirtual 58, 3) := by decide +kernel
theorem dX6_hold_5 : decode cX6_hold 5 = .ok (.ifCond .ne 5, 3) := by decide +kernel
theorem dX6_hold_8 : decode cX6_hold 8 = .ok (.iconst (-1), 1) := by decide +kernel
theorem dX6_hold_9 : decode cX6_hold 9 = .ok (.ireturn, 1) := by decide +kernel
theorem dX6_hold_10 : decode cX6_hold 10 = .ok (.aload_n 0, 1) := by decide +kernel
theorem dX6_hold_11 : decode cX6_hold 11 = .ok (.getfield 16, 3) := by decide +kernel
theorem dX6_hold_14 : decode cX6_hold 14 = .ok (.iload_n 1, 1) := by decide +kernel
theorem dX6_hold_15 : decode cX6_hold 15 = .ok (.baload, 1) := by decide +kernel
theorem dX6_hold_16 : decode cX6_hold 16 = .ok (.ifCond .eq 7, 3) := by decide +kernel
theorem dX6_hold_19 : decode cX6_hold 19 = .ok (.iconst 1, 1) := by decide +kernel
theorem dX6_hold_20 : decode cX6_hold 20 = .ok (.goto 4, 3) := by decide +kernel
theorem dX6_hold_23 : decode cX6_hold 23 = .ok (.iconst 0, 1) := by decide +kernel
theorem dX6_hold_24 : decode cX6_hold 24 = .ok (.istore_n 3, 1) := by decide +kernel
theorem dX6_hold_25 : decode cX6_hold 25 = .ok (.aload_n 0, 1) := by decide +kernel
theorem dX6_hold_26 : decode cX6_hold 26 = .ok (.getfield 16, 3) := by decide +kernel
theorem dX6_hold_29 : decode cX6_hold 29 = .ok (.iload_n 1, 1) := by decide +kernel
theorem dX6_hold_30 : decode cX6_hold 30 = .ok (.iload_n 2, 1) := by decide +kernel
theorem dX6_hold_31 : decode cX6_hold 31 = .ok (.bastore, 1) := by decide +kernel
theorem dX6_hold_32 : decode cX6_hold 32 = .ok (.iload_n 3, 1) := by decide +kernel
theorem dX6_hold_33 : decode cX6_hold 33 = .ok (.ireturn, 1) := by decide +kernel
theorem dX6_meet_0 : decode cX6_meet 0 = .ok (.aload_n 0, 1) := by decide +kernel
theorem dX6_meet_1 : decode cX6_meet 1 = .ok (.getfield 7, 3) := by decide +kernel
theorem dX6_meet_4 : decode cX6_meet 4 = .ok (.bipush 6, 2) := by decide +kernel
theorem dX6_meet_6 : decode cX6_meet 6 = .ok (.iload_n 1, 1) := by decide +kernel
theorem dX6_meet_7 : decode cX6_meet 7 = .ok (.imul, 1) := by decide +kernel
theorem dX6_meet_8 : decode cX6_meet 8 = .ok (.iconst 2, 1) := by decide +kernel
theorem dX6_meet_9 : decode cX6_meet 9 = .ok (.iadd, 1) := by decide +kernel
theorem dX6_meet_10 : decode cX6_meet 10 = .ok (.iaload, 1) := by decide +kernel
theorem dX6_meet_11 : decode cX6_meet 11 = .ok (.aload_n 0, 1) := by decide +kernel
theorem dX6_meet_12 : decode cX6_meet 12 = .ok (.getfield 7, 3) := by decide +kernel
theorem dX6_meet_15 : decode cX6_meet 15 = .ok (.bipush 6, 2) := by decide +kernel
theorem dX6_meet_17 : decode cX6_meet 17 = .ok (.iload_n 1, 1) := by decide +kernel
theorem dX6_meet_18 : decode cX6_meet 18 = .ok (.imul, 1) := by decide +kernel
theorem dX6_meet_19 : decode cX6_meet 19 = .ok (.iaload, 1) := by decide +kernel
theorem dX6_meet_20 : decode cX6_meet 20 = .ok (.isub, 1) := by decide +kernel
theorem dX6_meet_21 : decode cX6_meet 21 = .ok (.i2l, 1) := by decide +kernel
theorem dX6_meet_22 : decode cX6_meet 22 = .ok (.lstore_n 3, 1) := by decide +kernel
theorem dX6_meet_23 : decode cX6_meet 23 = .ok (.aload_n 0, 1) := by decide +kernel
theorem dX6_meet_24 : decode cX6_meet 24 = .ok (.getfield 7, 3) := by decide +kernel
theorem dX6_meet_27 : decode cX6_meet 27 = .ok (.bipush 6, 2) := by decide +kernel
theorem dX6_meet_29 : decode cX6_meet 29 = .ok (.iload_n 1, 1) := by decide +kernel
theorem dX6_meet_30 : decode cX6_meet 30 = .ok (.imul, 1) := by decide +kernel
theorem dX6_meet_31 : decode cX6_meet 31 = .ok (.iconst 3, 1) := by decide +kernel
theorem dX6_meet_32 : decode cX6_meet 32 = .ok (.iadd, 1) := by decide +kernel
theorem dX6_meet_33 : decode cX6_meet 33 = .ok (.iaload, 1) := by decide +kernel
theorem dX6_meet_34 : decode cX6_meet 34 = .ok (.aload_n 0, 1) := by decide +kernel
theorem dX6_meet_35 : decode cX6_meet 35 = .ok (.getfield 7, 3) := by decide +kernel
theorem dX6_meet_38 : decode cX6_meet 38 = .ok (.bipush 6, 2) := by decide +kernel
theorem dX6_meet_40 : decode cX6_meet 40 = .ok (.iload_n 1, 1) := by decide +kernel
theorem dX6_meet_41 : decode cX6_meet 41 = .ok (.imul, 1) := by decide +kernel
theorem dX6_meet_42 : decode cX6_meet 42 = .ok (.iconst 1, 1) := by decide +kernel
theorem dX6_meet_43 : decode cX6_meet 43 = .ok (.iadd, 1) := by decide +kernel
theorem dX6_meet_44 : decode cX6_meet 44 = .ok (.iaload, 1) := by decide +kernel
theorem dX6_meet_45 : decode cX6_meet 45 = .ok (.isub, 1) := by decide +kernel
theorem dX6_meet_46 : decode cX6_meet 46 = .ok (.i2l, 1) := by decide +kernel
theorem dX6_meet_47 : decode cX6_meet 47 = .ok (.lstore 5, 2) := by decide +kernel
theorem dX6_meet_49 : decode cX6_meet 49 = .ok (.aload_n 0, 1) := by decide +kernel
theorem dX6_meet_50 : decode cX6_meet 50 = .ok (.getfield 7, 3) := by decide +kernel
theorem dX6_meet_53 : decode cX6_meet 53 = .ok (.bipush 6, 2) := by decide +kernel
theorem dX6_meet_55 : decode cX6_meet 55 = .ok (.iload_n 2, 1) := by decide +kernel
theorem dX6_meet_56 : decode cX6_meet 56 = .ok (.imul, 1) := by decide +kernel
theorem dX6_meet_57 : decode cX6_meet 57 = .ok (.iconst 2, 1) := by decide +kernel
theorem dX6_meet_58 : decode cX6_meet 58 = .ok (.iadd, 1) := by decide +kernel
theorem dX6_meet_59 : decode cX6_meet 59 = .ok (.iaload, 1) := by decide +kernel
theorem dX6_meet_60 : decode cX6_meet 60 = .ok (.aload_n 0, 1) := by decide +kernel
theorem dX6_meet_61 : decode cX6_meet 61 = .ok (.getfield 7, 3) := by decide +kernel
theorem dX6_meet_64 : decode cX6_meet 64 = .ok (.bipush 6, 2) := by decide +kernel
theorem dX6_meet_66 : decode cX6_meet 66 = .ok (.iload_n 2, 1) := by decide +kernel
theorem dX6_meet_67 : decode cX6_meet 67 = .ok (.imul, 1) := by decide +kernel
theorem dX6_meet_68 : decode cX6_meet 68 = .ok (.iaload, 1) := by decide +kernel
theorem dX6_meet_69 : decode cX6_meet 69 = .ok (.isub, 1) := by decide +kernel
theorem dX6_meet_70 : decode cX6_meet 70 = .ok (.i2l, 1) := by decide +kernel
theorem dX6_meet_71 : decode cX6_meet 71 = .ok (.lstore 7, 2) := by decide +kernel
theorem dX6_meet_73 : decode cX6_meet 73 = .ok (.aload_n 0, 1) := by decide +kernel
theorem dX6_meet_74 : decode cX6_meet 74 = .ok (.getfield 7, 3) := by decide +kernel
theorem dX6_meet_77 : decode cX6_meet 77 = .ok (.bipush 6, 2) := by decide +kernel
theorem dX6_meet_79 : decode cX6_meet 79 = .ok (.iload_n 2, 1) := by decide +kernel
theorem dX6_meet_80 : decode cX6_meet 80 = .ok (.imul, 1) := by decide +kernel
theorem dX6_meet_81 : decode cX6_meet 81 = .ok (.iconst 3, 1) := by decide +kernel
theorem dX6_meet_82 : decode cX6_meet 82 = .ok (.iadd, 1) := by decide +kernel
theorem dX6_meet_83 : decode cX6_meet 83 = .ok (.iaload, 1) := by decide +kernel
theorem dX6_meet_84 : decode cX6_meet 84 = .ok (.aload_n 0, 1) := by decide +kernel
theorem dX6_meet_85 : decode cX6_meet 85 = .ok (.getfield 7, 3) := by decide +kernel
theorem dX6_meet_88 : decode cX6_meet 88 = .ok (.bipush 6, 2) := by decide +kernel
theorem dX6_meet_90 : decode cX6_meet 90 = .ok (.iload_n 2, 1) := by decide +kernel
theorem dX6_meet_91 : decode cX6_meet 91 = .ok (.imul, 1) := by decide +kernel
theorem dX6_meet_92 : decode cX6_meet 92 = .ok (.iconst 1, 1) := by decide +kernel
theorem dX6_meet_93 : decode cX6_meet 93 = .ok (.iadd, 1) := by decide +kernel
theorem dX6_meet_94 : decode cX6_meet 94 = .ok (.iaload, 1) := by decide +kernel
theorem dX6_meet_95 : decode cX6_meet 95 = .ok (.isub, 1) := by decide +kernel
theorem dX6_meet_96 : decode cX6_meet 96 = .ok (.i2l, 1) := by decide +kernel
theorem dX6_meet_97 : decode cX6_meet 97 = .ok (.lstore 9, 2) := by decide +kernel
theorem dX6_meet_99 : decode cX6_meet 99 = .ok (.aload_n 0, 1) := by decide +kernel
theorem dX6_meet_100 : decode cX6_meet 100 = .ok (.getfield 7, 3) := by decide +kernel
theorem dX6_meet_103 : decode cX6_meet 103 = .ok (.bipush 6, 2) := by decide +kernel
theorem dX6_meet_105 : decode cX6_meet 105 = .ok (.iload_n 2, 1) := by decide +kernel
theorem dX6_meet_106 : decode cX6_meet 106 = .ok (.imul, 1) := by decide +kernel
theorem dX6_meet_107 : decode cX6_meet 107 = .ok (.iaload, 1) := by decide +kernel
theorem dX6_meet_108 : decode cX6_meet 108 = .ok (.aload_n 0, 1) := by decide +kernel
theorem dX6_meet_109 : decode cX6_meet 109 = .ok (.getfield 7, 3) := by decide +kernel
theorem dX6_meet_112 : decode cX6_meet 112 = .ok (.bipush 6, 2) := by decide +kernel
theorem dX6_meet_114 : decode cX6_meet 114 = .ok (.iload_n 1, 1) := by decide +kernel
theorem dX6_meet_115 : decode cX6_meet 115 = .ok (.imul, 1) := by decide +kernel
theorem dX6_meet_116 : decode cX6_meet 116 = .ok (.iaload, 1) := by decide +kernel
theorem dX6_meet_117 : decode cX6_meet 117 = .ok (.isub, 1) := by decide +kernel
theorem dX6_meet_118 : decode cX6_meet 118 = .ok (.i2l, 1) := by decide +kernel
theorem dX6_meet_119 : decode cX6_meet 119 = .ok (.lstore 11, 2) := by decide +kernel
theorem dX6_meet_121 : decode cX6_meet 121 = .ok (.aload_n 0, 1) := by decide +kernel
theorem dX6_meet_122 : decode cX6_meet 122 = .ok (.getfield 7, 3) := by decide +kernel
theorem dX6_meet_125 : decode cX6_meet 125 = .ok (.bipush 6, 2) := by decide +kernel
theorem dX6_meet_127 : decode cX6_meet 127 = .ok (.iload_n 2, 1) := by decide +kernel
theorem dX6_meet_128 : decode cX6_meet 128 = .ok (.imul, 1) := by decide +kernel
theorem dX6_meet_129 : decode cX6_meet 129 = .ok (.iconst 1, 1) := by decide +kernel
theorem dX6_meet_130 : decode cX6_meet 130 = .ok (.iadd, 1) := by decide +kernel
theorem dX6_meet_131 : decode cX6_meet 131 = .ok (.iaload, 1) := by decide +kernel
theorem dX6_meet_132 : decode cX6_meet 132 = .ok (.aload_n 0, 1) := by decide +kernel
theorem dX6_meet_133 : decode cX6_meet 133 = .ok (.getfield 7, 3) := by decide +kernel
theorem dX6_meet_136 : decode cX6_meet 136 = .ok (.bipush 6, 2) := by decide +kernel
theorem dX6_meet_138 : decode cX6_meet 138 = .ok (.iload_n 1, 1) := by decide +kernel
theorem dX6_meet_139 : decode cX6_meet 139 = .ok (.imul, 1) := by decide +kernel
theorem dX6_meet_140 : decode cX6_meet 140 = .ok (.iconst 1, 1) := by decide +kernel
theorem dX6_meet_141 : decode cX6_meet 141 = .ok (.iadd, 1) := by decide +kernel
theorem dX6_meet_142 : decode cX6_meet 142 = .ok (.iaload, 1) := by decide +kernel
theorem dX6_meet_143 : decode cX6_meet 143 = .ok (.isub, 1) := by decide +kernel
theorem dX6_meet_144 : decode cX6_meet 144 = .ok (.i2l, 1) := by decide +kernel
theorem dX6_meet_145 : decode cX6_meet 145 = .ok (.lstore 13, 2) := by decide +kernel
theorem dX6_meet_147 : decode cX6_meet 147 = .ok (.aload_n 0, 1) := by decide +kernel
theorem dX6_meet_148 : decode cX6_meet 148 = .ok (.lload_n 3, 1) := by decide +kernel
theorem dX6_meet_149 : decode cX6_meet 149 = .ok (.lload 9, 2) := by decide +kernel
theorem dX6_meet_151 : decode cX6_meet 151 = .ok (.lmul, 1) := by decide +kernel
theorem dX6_meet_152 : decode cX6_meet 152 = .ok (.lload 5, 2) := by decide +kernel
theorem dX6_meet_154 : decode cX6_meet 154 = .ok (.lload 7, 2) := by decide +kernel
theorem dX6_meet_156 : decode cX6_meet 156 = .ok (.lmul, 1) := by decide +kernel
theorem dX6_meet_157 : decode cX6_meet 157 = .ok (.lsub, 1) := by decide +kernel
theorem dX6_meet_158 : decode cX6_meet 158 = .ok (.putfield 69, 3) := by decide +kernel
theorem dX6_meet_161 : decode cX6_meet 161 = .ok (.aload_n 0, 1) := by decide +kernel
theorem dX6_meet_162 : decode cX6_meet 162 = .ok (.lload 11, 2) := by decide +kernel
theorem dX6_meet_164 : decode cX6_meet 164 = .ok (.lload 9, 2) := by decide +kernel
theorem dX6_meet_166 : decode cX6_meet 166 = .ok (.lmul, 1) := by decide +kernel
theorem dX6_meet_167 : decode cX6_meet 167 = .ok (.lload 13, 2) := by decide +kernel
theorem dX6_meet_169 : decode cX6_meet 169 = .ok (.lload 7, 2) := by decide +kernel
theorem dX6_meet_171 : decode cX6_meet 171 = .ok (.lmul, 1) := by decide +kernel
theorem dX6_meet_172 : decode cX6_meet 172 = .ok (.lsub, 1) := by decide +kernel
theorem dX6_meet_173 : decode cX6_meet 173 = .ok (.putfield 73, 3) := by decide +kernel
theorem dX6_meet_176 : decode cX6_meet 176 = .ok (.aload_n 0, 1) := by decide +kernel
theorem dX6_meet_177 : decode cX6_meet 177 = .ok (.lload 11, 2) := by decide +kernel
theorem dX6_meet_179 : decode cX6_meet 179 = .ok (.lload 5, 2) := by decide +kernel
theorem dX6_meet_181 : decode cX6_meet 181 = .ok (.lmul, 1) := by decide +kernel
theorem dX6_meet_182 : decode cX6_meet 182 = .ok (.lload 13, 2) := by decide +kernel
theorem dX6_meet_184 : decode cX6_meet 184 = .ok (.lload_n 3, 1) := by decide +kernel
theorem dX6_meet_185 : decode cX6_meet 185 = .ok (.lmul, 1) := by decide +kernel
theorem dX6_meet_186 : decode cX6_meet 186 = .ok (.lsub, 1) := by decide +kernel
theorem dX6_meet_187 : decode cX6_meet 187 = .ok (.putfield 76, 3) := by decide +kernel
theorem dX6_meet_190 : decode cX6_meet 190 = .ok (.aload_n 0, 1) := by decide +kernel
theorem dX6_meet_191 : decode cX6_meet 191 = .ok (.getfield 69, 3) := by decide +kernel
theorem dX6_meet_194 : decode cX6_meet 194 = .ok (.lconst 0, 1) := by decide +kernel
theorem dX6_meet_195 : decode cX6_meet 195 = .ok (.lcmp, 1) := by decide +kernel
theorem dX6_meet_196 : decode cX6_meet 196 = .ok (.ifCond .ge 30, 3) := by decide +kernel
theorem dX6_meet_199 : decode cX6_meet 199 = .ok (.aload_n 0, 1) := by decide +kernel
theorem dX6_meet_200 : decode cX6_meet 200 = .ok (.aload_n 0, 1) := by decide +kernel
theorem dX6_meet_201 : decode cX6_meet 201 = .ok (.getfield 69, 3) := by decide +kernel
theorem dX6_meet_204 : decode cX6_meet 204 = .ok (.lneg, 1) := by decide +kernel
theorem dX6_meet_205 : decode cX6_meet 205 = .ok (.putfield 69, 3) := by decide +kernel
theorem dX6_meet_208 : decode cX6_meet 208 = .ok (.aload_n 0, 1) := by decide +kernel
theorem dX6_meet_209 : decode cX6_meet 209 = .ok (.aload_n 0, 1) := by decide +kernel
theorem dX6_meet_210 : decode cX6_meet 210 = .ok (.getfield 73, 3) := by decide +kernel
theorem dX6_meet_213 : decode cX6_meet 213 = .ok (.lneg, 1) := by decide +kernel
theorem dX6_meet_214 : decode cX6_meet 214 = .ok (.putfield 73, 3) := by decide +kernel
theorem dX6_meet_217 : decode cX6_meet 217 = .ok (.aload_n 0, 1) := by decide +kernel
theorem dX6_meet_218 : decode cX6_meet 218 = .ok (.aload_n 0, 1) := by decide +kernel
theorem dX6_meet_219 : decode cX6_meet 219 = .ok (.getfield 76, 3) := by decide +kernel
theorem dX6_meet_222 : decode cX6_meet 222 = .ok (.lneg, 1) := by decide +kernel
theorem dX6_meet_223 : decode cX6_meet 223 = .ok (.putfield 76, 3) := by decide +kernel
theorem dX6_meet_226 : decode cX6_meet 226 = .ok (.aload_n 0, 1) := by decide +kernel
theorem dX6_meet_227 : decode cX6_meet 227 = .ok (.getfield 69, 3) := by decide +kernel
theorem dX6_meet_230 : decode cX6_meet 230 = .ok (.lconst 0, 1) := by decide +kernel
theorem dX6_meet_231 : decode cX6_meet 231 = .ok (.lcmp, 1) := by decide +kernel
theorem dX6_meet_232 : decode cX6_meet 232 = .ok (.ifCond .le 37, 3) := by decide +kernel
theorem dX6_meet_235 : decode cX6_meet 235 = .ok (.aload_n 0, 1) := by decide +kernel
theorem dX6_meet_236 : decode cX6_meet 236 = .ok (.getfield 73, 3) := by decide +kernel
theorem dX6_meet_239 : decode cX6_meet 239 = .ok (.lconst 0, 1) := by decide +kernel
theorem dX6_meet_240 : decode cX6_meet 240 = .ok (.aload_n 0, 1) := by decide +kernel
theorem dX6_meet_241 : decode cX6_meet 241 = .ok (.getfield 69, 3) := by decide +kernel
theorem dX6_meet_244 : decode cX6_meet 244 = .ok (.invokestatic 44, 3) := by decide +kernel
theorem dX6_meet_247 : decode cX6_meet 247 = .ok (.ifCond .eq 22, 3) := by decide +kernel
theorem dX6_meet_250 : decode cX6_meet 250 = .ok (.aload_n 0, 1) := by decide +kernel
theorem dX6_meet_251 : decode cX6_meet 251 = .ok (.getfield 76, 3) := by decide +kernel
theorem dX6_meet_254 : decode cX6_meet 254 = .ok (.lconst 0, 1) := by decide +kernel
theorem dX6_meet_255 : decode cX6_meet 255 = .ok (.aload_n 0, 1) := by decide +kernel
theorem dX6_meet_256 : decode cX6_meet 256 = .ok (.getfield 69, 3) := by decide +kernel
theorem dX6_meet_259 : decode cX6_meet 259 = .ok (.invokestatic 44, 3) := by decide +kernel
theorem dX6_meet_262 : decode cX6_meet 262 = .ok (.ifCond .eq 7, 3) := by decide +kernel
theorem dX6_meet_265 : decode cX6_meet 265 = .ok (.iconst 1, 1) := by decide +kernel
theorem dX6_meet_266 : decode cX6_meet 266 = .ok (.goto 4, 3) := by decide +kernel
theorem dX6_meet_269 : decode cX6_meet 269 = .ok (.iconst 0, 1) := by decide +kernel
theorem dX6_meet_270 : decode cX6_meet 270 = .ok (.ireturn, 1) := by decide +kernel
theorem dX6_between_0 : decode cX6_between 0 = .ok (.lload_n 1, 1) := by decide +kernel
theorem dX6_between_1 : decode cX6_between 1 = .ok (.aload_n 0, 1) := by decide +kernel
theorem dX6_between_2 : decode cX6_between 2 = .ok (.getfield 69, 3) := by decide +kernel
theorem dX6_between_5 : decode cX6_between 5 = .ok (.lmul, 1) := by decide +kernel
theorem dX6_between_6 : decode cX6_between 6 = .ok (.lload_n 3, 1) := by decide +kernel
theorem dX6_between_7 : decode cX6_between 7 = .ok (.lload_n 1, 1) := by decide +kernel
theorem dX6_between_8 : decode cX6_between 8 = .ok (.lsub, 1) := by decide +kernel
theorem dX6_between_9 : decode cX6_between 9 = .ok (.lload 5, 2) := by decide +kernel
theorem dX6_between_11 : decode cX6_between 11 = .ok (.lmul, 1) := by decide +kernel
theorem dX6_between_12 : decode cX6_between 12 = .ok (.ladd, 1) := by decide +kernel
theorem dX6_between_13 : decode cX6_between 13 = .ok (.lreturn, 1) := by decide +kernel
theorem dX6_hasHeight_0 : decode cX6_hasHeight 0 = .ok (.ldc2_w 62, 3) := by decide +kernel
theorem dX6_hasHeight_3 : decode cX6_hasHeight 3 = .ok (.lload_n 2, 1) := by decide +kernel
theorem dX6_hasHeight_4 : decode cX6_hasHeight 4 = .ok (.lmul, 1) := by decide +kernel
theorem dX6_hasHeight_5 : decode cX6_hasHeight 5 = .ok (.aload_n 0, 1) := by decide +kernel
theorem dX6_hasHeight_6 : decode cX6_hasHeight 6 = .ok (.getfield 69, 3) := by decide +kernel
theorem dX6_hasHeight_9 : decode cX6_hasHeight 9 = .ok (.ldiv, 1) := by decide +kernel
theorem dX6_hasHeight_10 : decode cX6_hasHeight 10 = .ok (.l2i, 1) := by decide +kernel
theorem dX6_hasHeight_11 : decode cX6_hasHeight 11 = .ok (.istore 4, 2) := by decide +kernel
theorem dX6_hasHeight_13 : decode cX6_hasHeight 13 = .ok (.ldc2_w 62, 3) := by decide +kernel
theorem dX6_hasHeight_16 : decode cX6_hasHeight 16 = .ok (.lload_n 2, 1) := by decide +kernel
theorem dX6_hasHeight_17 : decode cX6_hasHeight 17 = .ok (.lmul, 1) := by decide +kernel
theorem dX6_hasHeight_18 : decode cX6_hasHeight 18 = .ok (.aload_n 0, 1) := by decide +kernel
theorem dX6_hasHeight_19 : decode cX6_hasHeight 19 = .ok (.getfield 69, 3) := by decide +kernel
theorem dX6_hasHeight_22 : decode cX6_hasHeight 22 = .ok (.lrem, 1) := by decide +kernel
theorem dX6_hasHeight_23 : decode cX6_hasHeight 23 = .ok (.lstore 5, 2) := by decide +kernel
theorem dX6_hasHeight_25 : decode cX6_hasHeight 25 = .ok (.aload_n 0, 1) := by decide +kernel
theorem dX6_hasHeight_26 : decode cX6_hasHeight 26 = .ok (.getfield 13, 3) := by decide +kernel
theorem dX6_hasHeight_29 : decode cX6_hasHeight 29 = .ok (.bipush 9, 2) := by decide +kernel
theorem dX6_hasHeight_31 : decode cX6_hasHeight 31 = .ok (.iload_n 1, 1) := by decide +kernel
theorem dX6_hasHeight_32 : decode cX6_hasHeight 32 = .ok (.imul, 1) := by decide +kernel
theorem dX6_hasHeight_33 : decode cX6_hasHeight 33 = .ok (.iload 4, 2) := by decide +kernel
theorem dX6_hasHeight_35 : decode cX6_hasHeight 35 = .ok (.iadd, 1) := by decide +kernel
theorem dX6_hasHeight_36 : decode cX6_hasHeight 36 = .ok (.iaload, 1) := by decide +kernel
theorem dX6_hasHeight_37 : decode cX6_hasHeight 37 = .ok (.i2l, 1) := by decide +kernel
theorem dX6_hasHeight_38 : decode cX6_hasHeight 38 = .ok (.lstore 7, 2) := by decide +kernel
theorem dX6_hasHeight_40 : decode cX6_hasHeight 40 = .ok (.lload 5, 2) := by decide +kernel
theorem dX6_hasHeight_42 : decode cX6_hasHeight 42 = .ok (.lconst 0, 1) := by decide +kernel
theorem dX6_hasHeight_43 : decode cX6_hasHeight 43 = .ok (.lcmp, 1) := by decide +kernel
theorem dX6_hasHeight_44 : decode cX6_hasHeight 44 = .ok (.ifCond .ne 8, 3) := by decide +kernel
theorem dX6_hasHeight_47 : decode cX6_hasHeight 47 = .ok (.lload 7, 2) := by decide +kernel
theorem dX6_hasHeight_49 : decode cX6_hasHeight 49 = .ok (.goto 18, 3) := by decide +kernel
theorem dX6_hasHeight_52 : decode cX6_hasHeight 52 = .ok (.aload_n 0, 1) := by decide +kernel
theorem dX6_hasHeight_53 : decode cX6_hasHeight 53 = .ok (.getfield 13, 3) := by decide +kernel
theorem dX6_hasHeight_56 : decode cX6_hasHeight 56 = .ok (.bipush 9, 2) := by decide +kernel
theorem dX6_hasHeight_58 : decode cX6_hasHeight 58 = .ok (.iload_n 1, 1) := by decide +kernel
theorem dX6_hasHeight_59 : decode cX6_hasHeight 59 = .ok (.imul, 1) := by decide +kernel
theorem dX6_hasHeight_60 : decode cX6_hasHeight 60 = .ok (.iload 4, 2) := by decide +kernel
theorem dX6_hasHeight_62 : decode cX6_hasHeight 62 = .ok (.iadd, 1) := by decide +kernel
theorem dX6_hasHeight_63 : decode cX6_hasHeight 63 = .ok (.iconst 1, 1) := by decide +kernel
theorem dX6_hasHeight_64 : decode cX6_hasHeight 64 = .ok (.iadd, 1) := by decide +kernel
theorem dX6_hasHeight_65 : decode cX6_hasHeight 65 = .ok (.iaload, 1) := by decide +kernel
theorem dX6_hasHeight_66 : decode cX6_hasHeight 66 = .ok (.i2l, 1) := by decide +kernel
theorem dX6_hasHeight_67 : decode cX6_hasHeight 67 = .ok (.lstore 9, 2) := by decide +kernel
theorem dX6_hasHeight_69 : decode cX6_hasHeight 69 = .ok (.aload_n 0, 1) := by decide +kernel
theorem dX6_hasHeight_70 : decode cX6_hasHeight 70 = .ok (.lload 7, 2) := by decide +kernel
theorem dX6_hasHeight_72 : decode cX6_hasHeight 72 = .ok (.aload_n 0, 1) := by decide +kernel
theorem dX6_hasHeight_73 : decode cX6_hasHeight 73 = .ok (.getfield 69, 3) := by decide +kernel
theorem dX6_hasHeight_76 : decode cX6_hasHeight 76 = .ok (.lload 5, 2) := by decide +kernel
theorem dX6_hasHeight_78 : decode cX6_hasHeight 78 = .ok (.lsub, 1) := by decide +kernel
theorem dX6_hasHeight_79 : decode cX6_hasHeight 79 = .ok (.lmul, 1) := by decide +kernel
theorem dX6_hasHeight_80 : decode cX6_hasHeight 80 = .ok (.lload 9, 2) := by decide +kernel
theorem dX6_hasHeight_82 : decode cX6_hasHeight 82 = .ok (.lload 5, 2) := by decide +kernel
theorem dX6_hasHeight_84 : decode cX6_hasHeight 84 = .ok (.lmul, 1) := by decide +kernel
theorem dX6_hasHeight_85 : decode cX6_hasHeight 85 = .ok (.ladd, 1) := by decide +kernel
theorem dX6_hasHeight_86 : decode cX6_hasHeight 86 = .ok (.putfield 79, 3) := by decide +kernel
theorem dX6_hasHeight_89 : decode cX6_hasHeight 89 = .ok (.lload 7, 2) := by decide +kernel
theorem dX6_hasHeight_91 : decode cX6_hasHeight 91 = .ok (.ldc2_w 82, 3) := by decide +kernel
theorem dX6_hasHeight_94 : decode cX6_hasHeight 94 = .ok (.lcmp, 1) := by decide +kernel
theorem dX6_hasHeight_95 : decode cX6_hasHeight 95 = .ok (.ifCond .eq 16, 3) := by decide +kernel
theorem dX6_hasHeight_98 : decode cX6_hasHeight 98 = .ok (.lload 9, 2) := by decide +kernel
theorem dX6_hasHeight_100 : decode cX6_hasHeight 100 = .ok (.ldc2_w 82, 3) := by decide +kernel
theorem dX6_hasHeight_103 : decode cX6_hasHeight 103 = .ok (.lcmp, 1) := by decide +kernel
theorem dX6_hasHeight_104 : decode cX6_hasHeight 104 = .ok (.ifCond .eq 7, 3) := by decide +kernel
theorem dX6_hasHeight_107 : decode cX6_hasHeight 107 = .ok (.iconst 1, 1) := by decide +kernel
theorem dX6_hasHeight_108 : decode cX6_hasHeight 108 = .ok (.goto 4, 3) := by decide +kernel
theorem dX6_hasHeight_111 : decode cX6_hasHeight 111 = .ok (.iconst 0, 1) := by decide +kernel
theorem dX6_hasHeight_112 : decode cX6_hasHeight 112 = .ok (.ireturn, 1) := by decide +kernel
theorem dX6_common_0 : decode cX6_common 0 = .ok (.lload_n 0, 1) := by decide +kernel
theorem dX6_common_1 : decode cX6_common 1 = .ok (.lconst 0, 1) := by decide +kernel
theorem dX6_common_2 : decode cX6_common 2 = .ok (.lcmp, 1) := by decide +kernel
theorem dX6_common_3 : decode cX6_common 3 = .ok (.ifCond .ge 8, 3) := by decide +kernel
theorem dX6_common_6 : decode cX6_common 6 = .ok (.lload_n 0, 1) := by decide +kernel
theorem dX6_common_7 : decode cX6_common 7 = .ok (.lneg, 1) := by decide +kernel
theorem dX6_common_8 : decode cX6_common 8 = .ok (.goto 4, 3) := by decide +kernel
theorem dX6_common_11 : decode cX6_common 11 = .ok (.lload_n 0, 1) := by decide +kernel
theorem dX6_common_12 : decode cX6_common 12 = .ok (.lstore 4, 2) := by decide +kernel
theorem dX6_common_14 : decode cX6_common 14 = .ok (.lload_n 2, 1) := by decide +kernel
theorem dX6_common_15 : decode cX6_common 15 = .ok (.lstore 6, 2) := by decide +kernel
theorem dX6_common_17 : decode cX6_common 17 = .ok (.lload 6, 2) := by decide +kernel
theorem dX6_common_19 : decode cX6_common 19 = .ok (.lconst 0, 1) := by decide +kernel
theorem dX6_common_20 : decode cX6_common 20 = .ok (.lcmp, 1) := by decide +kernel
theorem dX6_common_21 : decode cX6_common 21 = .ok (.ifCond .eq 21, 3) := by decide +kernel
theorem dX6_common_24 : decode cX6_common 24 = .ok (.lload 4, 2) := by decide +kernel
theorem dX6_common_26 : decode cX6_common 26 = .ok (.lload 6, 2) := by decide +kernel
theorem dX6_common_28 : decode cX6_common 28 = .ok (.lrem, 1) := by decide +kernel
theorem dX6_common_29 : decode cX6_common 29 = .ok (.lstore 8, 2) := by decide +kernel
theorem dX6_common_31 : decode cX6_common 31 = .ok (.lload 6, 2) := by decide +kernel
theorem dX6_common_33 : decode cX6_common 33 = .ok (.lstore 4, 2) := by decide +kernel
theorem dX6_common_35 : decode cX6_common 35 = .ok (.lload 8, 2) := by decide +kernel
theorem dX6_common_37 : decode cX6_common 37 = .ok (.lstore 6, 2) := by decide +kernel
theorem dX6_common_39 : decode cX6_common 39 = .ok (.goto (-22), 3) := by decide +kernel
theorem dX6_common_42 : decode cX6_common 42 = .ok (.lload 4, 2) := by decide +kernel
theorem dX6_common_44 : decode cX6_common 44 = .ok (.lreturn, 1) := by decide +kernel
theorem dX6_part_0 : decode cX6_part 0 = .ok (.iload 4, 2) := by decide +kernel
theorem dX6_part_2 : decode cX6_part 2 = .ok (.ifCond .ne 7, 3) := by decide +kernel
theorem dX6_part_5 : decode cX6_part 5 = .ok (.lload_n 0, 1) := by decide +kernel
theorem dX6_part_6 : decode cX6_part 6 = .ok (.goto 4, 3) := by decide +kernel
theorem dX6_part_9 : decode cX6_part 9 = .ok (.lload_n 2, 1) := by decide +kernel
theorem dX6_part_10 : decode cX6_part 10 = .ok (.lload_n 0, 1) := by decide +kernel
theorem dX6_part_11 : decode cX6_part 11 = .ok (.lload_n 2, 1) := by decide +kernel
theorem dX6_part_12 : decode cX6_part 12 = .ok (.invokestatic 84, 3) := by decide +kernel
theorem dX6_part_15 : decode cX6_part 15 = .ok (.ldiv, 1) := by decide +kernel
theorem dX6_part_16 : decode cX6_part 16 = .ok (.lreturn, 1) := by decide +kernel
theorem dX6_cross_0 : decode cX6_cross 0 = .ok (.aload_n 0, 1) := by decide +kernel
theorem dX6_cross_1 : decode cX6_cross 1 = .ok (.iload_n 1, 1) := by decide +kernel
theorem dX6_cross_2 : decode cX6_cross 2 = .ok (.invokevirtual 58, 3) := by decide +kernel
theorem dX6_cross_5 : decode cX6_cross 5 = .ok (.ifCond .eq 39, 3) := by decide +kernel
theorem dX6_cross_8 : decode cX6_cross 8 = .ok (.aload_n 0, 1) := by decide +kernel
theorem dX6_cross_9 : decode cX6_cross 9 = .ok (.iload_n 2, 1) := by decide +kernel
theorem dX6_cross_10 : decode cX6_cross 10 = .ok (.invokevirtual 58, 3) := by decide +kernel
theorem dX6_cross_13 : decode cX6_cross 13 = .ok (.ifCond .eq 31, 3) := by decide +kernel
theorem dX6_cross_16 : decode cX6_cross 16 = .ok (.iload_n 1, 1) := by decide +kernel
theorem dX6_cross_17 : decode cX6_cross 17 = .ok (.iload_n 2, 1) := by decide +kernel
theorem dX6_cross_18 : decode cX6_cross 18 = .ok (.if_icmp .eq 26, 3) := by decide +kernel
theorem dX6_cross_21 : decode cX6_cross 21 = .ok (.iload_n 3, 1) := by decide +kernel
theorem dX6_cross_22 : decode cX6_cross 22 = .ok (.i2l, 1) := by decide +kernel
theorem dX6_cross_23 : decode cX6_cross 23 = .ok (.lconst 0, 1) := by decide +kernel
theorem dX6_cross_24 : decode cX6_cross 24 = .ok (.ldc2_w 88, 3) := by decide +kernel
theorem dX6_cross_27 : decode cX6_cross 27 = .ok (.invokestatic 44, 3) := by decide +kernel
theorem dX6_cross_30 : decode cX6_cross 30 = .ok (.ifCond .eq 14, 3) := by decide +kernel
theorem dX6_cross_33 : decode cX6_cross 33 = .ok (.iload 4, 2) := by decide +kernel
theorem dX6_cross_35 : decode cX6_cross 35 = .ok (.i2l, 1) := by decide +kernel
theorem dX6_cross_36 : decode cX6_cross 36 = .ok (.lconst 0, 1) := by decide +kernel
theorem dX6_cross_37 : decode cX6_cross 37 = .ok (.lconst 1, 1) := by decide +kernel
theorem dX6_cross_38 : decode cX6_cross 38 = .ok (.invokestatic 44, 3) := by decide +kernel
theorem dX6_cross_41 : decode cX6_cross 41 = .ok (.ifCond .ne 7, 3) := by decide +kernel
theorem dX6_cross_44 : decode cX6_cross 44 = .ok (.ldc2_w 90, 3) := by decide +kernel
theorem dX6_cross_47 : decode cX6_cross 47 = .ok (.lreturn, 1) := by decide +kernel
theorem dX6_cross_48 : decode cX6_cross 48 = .ok (.aload_n 0, 1) := by decide +kernel
theorem dX6_cross_49 : decode cX6_cross 49 = .ok (.iload_n 1, 1) := by decide +kernel
theorem dX6_cross_50 : decode cX6_cross 50 = .ok (.iload_n 2, 1) := by decide +kernel
theorem dX6_cross_51 : decode cX6_cross 51 = .ok (.invokevirtual 92, 3) := by decide +kernel
theorem dX6_cross_54 : decode cX6_cross 54 = .ok (.ifCond .ne 7, 3) := by decide +kernel
theorem dX6_cross_57 : decode cX6_cross 57 = .ok (.ldc2_w 95, 3) := by decide +kernel
theorem dX6_cross_60 : decode cX6_cross 60 = .ok (.lreturn, 1) := by decide +kernel
theorem dX6_cross_61 : decode cX6_cross 61 = .ok (.iload_n 3, 1) := by decide +kernel
theorem dX6_cross_62 : decode cX6_cross 62 = .ok (.tableswitch 232 0 5 #[38, 78, 120, 162, 204, 218], 38) := by decide +kernel
theorem dX6_cross_100 : decode cX6_cross 100 = .ok (.aload_n 0, 1) := by decide +kernel
theorem dX6_cross_101 : decode cX6_cross 101 = .ok (.aload_n 0, 1) := by decide +kernel
theorem dX6_cross_102 : decode cX6_cross 102 = .ok (.getfield 7, 3) := by decide +kernel
theorem dX6_cross_105 : decode cX6_cross 105 = .ok (.bipush 6, 2) := by decide +kernel
theorem dX6_cross_107 : decode cX6_cross 107 = .ok (.iload_n 1, 1) := by decide +kernel
theorem dX6_cross_108 : decode cX6_cross 108 = .ok (.imul, 1) := by decide +kernel
theorem dX6_cross_109 : decode cX6_cross 109 = .ok (.iaload, 1) := by decide +kernel
theorem dX6_cross_110 : decode cX6_cross 110 = .ok (.i2l, 1) := by decide +kernel
theorem dX6_cross_111 : decode cX6_cross 111 = .ok (.aload_n 0, 1) := by decide +kernel
theorem dX6_cross_112 : decode cX6_cross 112 = .ok (.getfield 7, 3) := by decide +kernel
theorem dX6_cross_115 : decode cX6_cross 115 = .ok (.bipush 6, 2) := by decide +kernel
theorem dX6_cross_117 : decode cX6_cross 117 = .ok (.iload_n 1, 1) := by decide +kernel
theorem dX6_cross_118 : decode cX6_cross 118 = .ok (.imul, 1) := by decide +kernel
theorem dX6_cross_119 : decode cX6_cross 119 = .ok (.iconst 2, 1) := by decide +kernel
theorem dX6_cross_120 : decode cX6_cross 120 = .ok (.iadd, 1) := by decide +kernel
theorem dX6_cross_121 : decode cX6_cross 121 = .ok (.iaload, 1) := by decide +kernel
theorem dX6_cross_122 : decode cX6_cross 122 = .ok (.i2l, 1) := by decide +kernel
theorem dX6_cross_123 : decode cX6_cross 123 = .ok (.aload_n 0, 1) := by decide +kernel
theorem dX6_cross_124 : decode cX6_cross 124 = .ok (.getfield 73, 3) := by decide +kernel
theorem dX6_cross_127 : decode cX6_cross 127 = .ok (.invokevirtual 97, 3) := by decide +kernel
theorem dX6_cross_130 : decode cX6_cross 130 = .ok (.aload_n 0, 1) := by decide +kernel
theorem dX6_cross_131 : decode cX6_cross 131 = .ok (.getfield 69, 3) := by decide +kernel
theorem dX6_cross_134 : decode cX6_cross 134 = .ok (.iload 4, 2) := by decide +kernel
theorem dX6_cross_136 : decode cX6_cross 136 = .ok (.invokestatic 101, 3) := by decide +kernel
theorem dX6_cross_139 : decode cX6_cross 139 = .ok (.lreturn, 1) := by decide +kernel
theorem dX6_cross_140 : decode cX6_cross 140 = .ok (.aload_n 0, 1) := by decide +kernel
theorem dX6_cross_141 : decode cX6_cross 141 = .ok (.aload_n 0, 1) := by decide +kernel
theorem dX6_cross_142 : decode cX6_cross 142 = .ok (.getfield 7, 3) := by decide +kernel
theorem dX6_cross_145 : decode cX6_cross 145 = .ok (.bipush 6, 2) := by decide +kernel
theorem dX6_cross_147 : decode cX6_cross 147 = .ok (.iload_n 1, 1) := by decide +kernel
theorem dX6_cross_148 : decode cX6_cross 148 = .ok (.imul, 1) := by decide +kernel
theorem dX6_cross_149 : decode cX6_cross 149 = .ok (.iconst 1, 1) := by decide +kernel
theorem dX6_cross_150 : decode cX6_cross 150 = .ok (.iadd, 1) := by decide +kernel
theorem dX6_cross_151 : decode cX6_cross 151 = .ok (.iaload, 1) := by decide +kernel
theorem dX6_cross_152 : decode cX6_cross 152 = .ok (.i2l, 1) := by decide +kernel
theorem dX6_cross_153 : decode cX6_cross 153 = .ok (.aload_n 0, 1) := by decide +kernel
theorem dX6_cross_154 : decode cX6_cross 154 = .ok (.getfield 7, 3) := by decide +kernel
theorem dX6_cross_157 : decode cX6_cross 157 = .ok (.bipush 6, 2) := by decide +kernel
theorem dX6_cross_159 : decode cX6_cross 159 = .ok (.iload_n 1, 1) := by decide +kernel
theorem dX6_cross_160 : decode cX6_cross 160 = .ok (.imul, 1) := by decide +kernel
theorem dX6_cross_161 : decode cX6_cross 161 = .ok (.iconst 3, 1) := by decide +kernel
theorem dX6_cross_162 : decode cX6_cross 162 = .ok (.iadd, 1) := by decide +kernel
theorem dX6_cross_163 : decode cX6_cross 163 = .ok (.iaload, 1) := by decide +kernel
theorem dX6_cross_164 : decode cX6_cross 164 = .ok (.i2l, 1) := by decide +kernel
theorem dX6_cross_165 : decode cX6_cross 165 = .ok (.aload_n 0, 1) := by decide +kernel
theorem dX6_cross_166 : decode cX6_cross 166 = .ok (.getfield 73, 3) := by decide +kernel
theorem dX6_cross_169 : decode cX6_cross 169 = .ok (.invokevirtual 97, 3) := by decide +kernel
theorem dX6_cross_172 : decode cX6_cross 172 = .ok (.aload_n 0, 1) := by decide +kernel
theorem dX6_cross_173 : decode cX6_cross 173 = .ok (.getfield 69, 3) := by decide +kernel
theorem dX6_cross_176 : decode cX6_cross 176 = .ok (.iload 4, 2) := by decide +kernel
theorem dX6_cross_178 : decode cX6_cross 178 = .ok (.invokestatic 101, 3) := by decide +kernel
theorem dX6_cross_181 : decode cX6_cross 181 = .ok (.lreturn, 1) := by decide +kernel
theorem dX6_cross_182 : decode cX6_cross 182 = .ok (.aload_n 0, 1) := by decide +kernel
theorem dX6_cross_183 : decode cX6_cross 183 = .ok (.aload_n 0, 1) := by decide +kernel
theorem dX6_cross_184 : decode cX6_cross 184 = .ok (.getfield 7, 3) := by decide +kernel
theorem dX6_cross_187 : decode cX6_cross 187 = .ok (.bipush 6, 2) := by decide +kernel
theorem dX6_cross_189 : decode cX6_cross 189 = .ok (.iload_n 1, 1) := by decide +kernel
theorem dX6_cross_190 : decode cX6_cross 190 = .ok (.imul, 1) := by decide +kernel
theorem dX6_cross_191 : decode cX6_cross 191 = .ok (.iconst 4, 1) := by decide +kernel
theorem dX6_cross_192 : decode cX6_cross 192 = .ok (.iadd, 1) := by decide +kernel
theorem dX6_cross_193 : decode cX6_cross 193 = .ok (.iaload, 1) := by decide +kernel
theorem dX6_cross_194 : decode cX6_cross 194 = .ok (.i2l, 1) := by decide +kernel
theorem dX6_cross_195 : decode cX6_cross 195 = .ok (.aload_n 0, 1) := by decide +kernel
theorem dX6_cross_196 : decode cX6_cross 196 = .ok (.getfield 7, 3) := by decide +kernel
theorem dX6_cross_199 : decode cX6_cross 199 = .ok (.bipush 6, 2) := by decide +kernel
theorem dX6_cross_201 : decode cX6_cross 201 = .ok (.iload_n 1, 1) := by decide +kernel
theorem dX6_cross_202 : decode cX6_cross 202 = .ok (.imul, 1) := by decide +kernel
theorem dX6_cross_203 : decode cX6_cross 203 = .ok (.iconst 5, 1) := by decide +kernel
theorem dX6_cross_204 : decode cX6_cross 204 = .ok (.iadd, 1) := by decide +kernel
theorem dX6_cross_205 : decode cX6_cross 205 = .ok (.iaload, 1) := by decide +kernel
theorem dX6_cross_206 : decode cX6_cross 206 = .ok (.i2l, 1) := by decide +kernel
theorem dX6_cross_207 : decode cX6_cross 207 = .ok (.aload_n 0, 1) := by decide +kernel
theorem dX6_cross_208 : decode cX6_cross 208 = .ok (.getfield 73, 3) := by decide +kernel
theorem dX6_cross_211 : decode cX6_cross 211 = .ok (.invokevirtual 97, 3) := by decide +kernel
theorem dX6_cross_214 : decode cX6_cross 214 = .ok (.aload_n 0, 1) := by decide +kernel
theorem dX6_cross_215 : decode cX6_cross 215 = .ok (.getfield 69, 3) := by decide +kernel
theorem dX6_cross_218 : decode cX6_cross 218 = .ok (.iload 4, 2) := by decide +kernel
theorem dX6_cross_220 : decode cX6_cross 220 = .ok (.invokestatic 101, 3) := by decide +kernel
theorem dX6_cross_223 : decode cX6_cross 223 = .ok (.lreturn, 1) := by decide +kernel
theorem dX6_cross_224 : decode cX6_cross 224 = .ok (.aload_n 0, 1) := by decide +kernel
theorem dX6_cross_225 : decode cX6_cross 225 = .ok (.aload_n 0, 1) := by decide +kernel
theorem dX6_cross_226 : decode cX6_cross 226 = .ok (.getfield 7, 3) := by decide +kernel
theorem dX6_cross_229 : decode cX6_cross 229 = .ok (.bipush 6, 2) := by decide +kernel
theorem dX6_cross_231 : decode cX6_cross 231 = .ok (.iload_n 2, 1) := by decide +kernel
theorem dX6_cross_232 : decode cX6_cross 232 = .ok (.imul, 1) := by decide +kernel
theorem dX6_cross_233 : decode cX6_cross 233 = .ok (.iconst 4, 1) := by decide +kernel
theorem dX6_cross_234 : decode cX6_cross 234 = .ok (.iadd, 1) := by decide +kernel
theorem dX6_cross_235 : decode cX6_cross 235 = .ok (.iaload, 1) := by decide +kernel
theorem dX6_cross_236 : decode cX6_cross 236 = .ok (.i2l, 1) := by decide +kernel
theorem dX6_cross_237 : decode cX6_cross 237 = .ok (.aload_n 0, 1) := by decide +kernel
theorem dX6_cross_238 : decode cX6_cross 238 = .ok (.getfield 7, 3) := by decide +kernel
theorem dX6_cross_241 : decode cX6_cross 241 = .ok (.bipush 6, 2) := by decide +kernel
theorem dX6_cross_243 : decode cX6_cross 243 = .ok (.iload_n 2, 1) := by decide +kernel
theorem dX6_cross_244 : decode cX6_cross 244 = .ok (.imul, 1) := by decide +kernel
theorem dX6_cross_245 : decode cX6_cross 245 = .ok (.iconst 5, 1) := by decide +kernel
theorem dX6_cross_246 : decode cX6_cross 246 = .ok (.iadd, 1) := by decide +kernel
theorem dX6_cross_247 : decode cX6_cross 247 = .ok (.iaload, 1) := by decide +kernel
theorem dX6_cross_248 : decode cX6_cross 248 = .ok (.i2l, 1) := by decide +kernel
theorem dX6_cross_249 : decode cX6_cross 249 = .ok (.aload_n 0, 1) := by decide +kernel
theorem dX6_cross_250 : decode cX6_cross 250 = .ok (.getfield 76, 3) := by decide +kernel
theorem dX6_cross_253 : decode cX6_cross 253 = .ok (.invokevirtual 97, 3) := by decide +kernel
theorem dX6_cross_256 : decode cX6_cross 256 = .ok (.aload_n 0, 1) := by decide +kernel
theorem dX6_cross_257 : decode cX6_cross 257 = .ok (.getfield 69, 3) := by decide +kernel
theorem dX6_cross_260 : decode cX6_cross 260 = .ok (.iload 4, 2) := by decide +kernel
theorem dX6_cross_262 : decode cX6_cross 262 = .ok (.invokestatic 101, 3) := by decide +kernel
theorem dX6_cross_265 : decode cX6_cross 265 = .ok (.lreturn, 1) := by decide +kernel
theorem dX6_cross_266 : decode cX6_cross 266 = .ok (.aload_n 0, 1) := by decide +kernel
theorem dX6_cross_267 : decode cX6_cross 267 = .ok (.getfield 73, 3) := by decide +kernel
theorem dX6_cross_270 : decode cX6_cross 270 = .ok (.aload_n 0, 1) := by decide +kernel
theorem dX6_cross_271 : decode cX6_cross 271 = .ok (.getfield 69, 3) := by decide +kernel
theorem dX6_cross_274 : decode cX6_cross 274 = .ok (.iload 4, 2) := by decide +kernel
theorem dX6_cross_276 : decode cX6_cross 276 = .ok (.invokestatic 101, 3) := by decide +kernel
theorem dX6_cross_279 : decode cX6_cross 279 = .ok (.lreturn, 1) := by decide +kernel
theorem dX6_cross_280 : decode cX6_cross 280 = .ok (.aload_n 0, 1) := by decide +kernel
theorem dX6_cross_281 : decode cX6_cross 281 = .ok (.getfield 76, 3) := by decide +kernel
theorem dX6_cross_284 : decode cX6_cross 284 = .ok (.aload_n 0, 1) := by decide +kernel
theorem dX6_cross_285 : decode cX6_cross 285 = .ok (.getfield 69, 3) := by decide +kernel
theorem dX6_cross_288 : decode cX6_cross 288 = .ok (.iload 4, 2) := by decide +kernel
theorem dX6_cross_290 : decode cX6_cross 290 = .ok (.invokestatic 101, 3) := by decide +kernel
theorem dX6_cross_293 : decode cX6_cross 293 = .ok (.lreturn, 1) := by decide +kernel
theorem dX6_cross_294 : decode cX6_cross 294 = .ok (.aload_n 0, 1) := by decide +kernel
theorem dX6_cross_295 : decode cX6_cross 295 = .ok (.iload_n 3, 1) := by decide +kernel
theorem dX6_cross_296 : decode cX6_cross 296 = .ok (.bipush 6, 2) := by decide +kernel
theorem dX6_cross_298 : decode cX6_cross 298 = .ok (.if_icmp .ne 7, 3) := by decide +kernel
theorem dX6_cross_301 : decode cX6_cross 301 = .ok (.iload_n 1, 1) := by decide +kernel
theorem dX6_cross_302 : decode cX6_cross 302 = .ok (.goto 4, 3) := by decide +kernel
theorem dX6_cross_305 : decode cX6_cross 305 = .ok (.iload_n 2, 1) := by decide +kernel
theorem dX6_cross_306 : decode cX6_cross 306 = .ok (.iload_n 3, 1) := by decide +kernel
theorem dX6_cross_307 : decode cX6_cross 307 = .ok (.bipush 6, 2) := by decide +kernel
theorem dX6_cross_309 : decode cX6_cross 309 = .ok (.if_icmp .ne 10, 3) := by decide +kernel
theorem dX6_cross_312 : decode cX6_cross 312 = .ok (.aload_n 0, 1) := by decide +kernel
theorem dX6_cross_313 : decode cX6_cross 313 = .ok (.getfield 73, 3) := by decide +kernel
theorem dX6_cross_316 : decode cX6_cross 316 = .ok (.goto 7, 3) := by decide +kernel
theorem dX6_cross_319 : decode cX6_cross 319 = .ok (.aload_n 0, 1) := by decide +kernel
theorem dX6_cross_320 : decode cX6_cross 320 = .ok (.getfield 76, 3) := by decide +kernel
theorem dX6_cross_323 : decode cX6_cross 323 = .ok (.invokevirtual 105, 3) := by decide +kernel
theorem dX6_cross_326 : decode cX6_cross 326 = .ok (.ifCond .eq 19, 3) := by decide +kernel
theorem dX6_cross_329 : decode cX6_cross 329 = .ok (.aload_n 0, 1) := by decide +kernel
theorem dX6_cross_330 : decode cX6_cross 330 = .ok (.getfield 79, 3) := by decide +kernel
theorem dX6_cross_333 : decode cX6_cross 333 = .ok (.aload_n 0, 1) := by decide +kernel
theorem dX6_cross_334 : decode cX6_cross 334 = .ok (.getfield 69, 3) := by decide +kernel
theorem dX6_cross_337 : decode cX6_cross 337 = .ok (.iload 4, 2) := by decide +kernel
theorem dX6_cross_339 : decode cX6_cross 339 = .ok (.invokestatic 101, 3) := by decide +kernel
theorem dX6_cross_342 : decode cX6_cross 342 = .ok (.goto 6, 3) := by decide +kernel
theorem dX6_cross_345 : decode cX6_cross 345 = .ok (.ldc2_w 95, 3) := by decide +kernel
theorem dX6_cross_348 : decode cX6_cross 348 = .ok (.lreturn, 1) := by decide +kernel
theorem dX6_crosses_0 : decode cX6_crosses 0 = .ok (.aload_n 0, 1) := by decide +kernel
theorem dX6_crosses_1 : decode cX6_crosses 1 = .ok (.iload_n 1, 1) := by decide +kernel
theorem dX6_crosses_2 : decode cX6_crosses 2 = .ok (.invokevirtual 58, 3) := by decide +kernel
theorem dX6_crosses_5 : decode cX6_crosses 5 = .ok (.ifCond .eq 16, 3) := by decide +kernel
theorem dX6_crosses_8 : decode cX6_crosses 8 = .ok (.aload_n 0, 1) := by decide +kernel
theorem dX6_crosses_9 : decode cX6_crosses 9 = .ok (.iload_n 2, 1) := by decide +kernel
theorem dX6_crosses_10 : decode cX6_crosses 10 = .ok (.invokevirtual 58, 3) := by decide +kernel
theorem dX6_crosses_13 : decode cX6_crosses 13 = .ok (.ifCond .eq 8, 3) := by decide +kernel
theorem dX6_crosses_16 : decode cX6_crosses 16 = .ok (.iload_n 1, 1) := by decide +kernel
theorem dX6_crosses_17 : decode cX6_crosses 17 = .ok (.iload_n 2, 1) := by decide +kernel
theorem dX6_crosses_18 : decode cX6_crosses 18 = .ok (.if_icmp .ne 7, 3) := by decide +kernel
theorem dX6_crosses_21 : decode cX6_crosses 21 = .ok (.iconst (-1), 1) := by decide +kernel
theorem dX6_crosses_22 : decode cX6_crosses 22 = .ok (.goto 17, 3) := by decide +kernel
theorem dX6_crosses_25 : decode cX6_crosses 25 = .ok (.aload_n 0, 1) := by decide +kernel
theorem dX6_crosses_26 : decode cX6_crosses 26 = .ok (.iload_n 1, 1) := by decide +kernel
theorem dX6_crosses_27 : decode cX6_crosses 27 = .ok (.iload_n 2, 1) := by decide +kernel
theorem dX6_crosses_28 : decode cX6_crosses 28 = .ok (.invokevirtual 92, 3) := by decide +kernel
theorem dX6_crosses_31 : decode cX6_crosses 31 = .ok (.ifCond .eq 7, 3) := by decide +kernel
theorem dX6_crosses_34 : decode cX6_crosses 34 = .ok (.iconst 1, 1) := by decide +kernel
theorem dX6_crosses_35 : decode cX6_crosses 35 = .ok (.goto 4, 3) := by decide +kernel
theorem dX6_crosses_38 : decode cX6_crosses 38 = .ok (.iconst 0, 1) := by decide +kernel
theorem dX6_crosses_39 : decode cX6_crosses 39 = .ok (.ireturn, 1) := by decide +kernel
theorem dX6_down_0 : decode cX6_down 0 = .ok (.lload_n 0, 1) := by decide +kernel
theorem dX6_down_1 : decode cX6_down 1 = .ok (.lconst 0, 1) := by decide +kernel
theorem dX6_down_2 : decode cX6_down 2 = .ok (.lcmp, 1) := by decide +kernel
theorem dX6_down_3 : decode cX6_down 3 = .ok (.ifCond .lt 9, 3) := by decide +kernel
theorem dX6_down_6 : decode cX6_down 6 = .ok (.lload_n 0, 1) := by decide +kernel
theorem dX6_down_7 : decode cX6_down 7 = .ok (.lload_n 2, 1) := by decide +kernel
theorem dX6_down_8 : decode cX6_down 8 = .ok (.ldiv, 1) := by decide +kernel
theorem dX6_down_9 : decode cX6_down 9 = .ok (.goto 11, 3) := by decide +kernel
theorem dX6_down_12 : decode cX6_down 12 = .ok (.lload_n 2, 1) := by decide +kernel
theorem dX6_down_13 : decode cX6_down 13 = .ok (.lconst 1, 1) := by decide +kernel
theorem dX6_down_14 : decode cX6_down 14 = .ok (.lsub, 1) := by decide +kernel
theorem dX6_down_15 : decode cX6_down 15 = .ok (.lload_n 0, 1) := by decide +kernel
theorem dX6_down_16 : decode cX6_down 16 = .ok (.lsub, 1) := by decide +kernel
theorem dX6_down_17 : decode cX6_down 17 = .ok (.lload_n 2, 1) := by decide +kernel
theorem dX6_down_18 : decode cX6_down 18 = .ok (.ldiv, 1) := by decide +kernel
theorem dX6_down_19 : decode cX6_down 19 = .ok (.lneg, 1) := by decide +kernel
theorem dX6_down_20 : decode cX6_down 20 = .ok (.lreturn, 1) := by decide +kernel
theorem dX6_differ_0 : decode cX6_differ 0 = .ok (.aload_n 0, 1) := by decide +kernel
theorem dX6_differ_1 : decode cX6_differ 1 = .ok (.getfield 16, 3) := by decide +kernel
theorem dX6_differ_4 : decode cX6_differ 4 = .ok (.iload_n 1, 1) := by decide +kernel
theorem dX6_differ_5 : decode cX6_differ 5 = .ok (.baload, 1) := by decide +kernel
theorem dX6_differ_6 : decode cX6_differ 6 = .ok (.ifCond .ne 33, 3) := by decide +kernel
theorem dX6_differ_9 : decode cX6_differ 9 = .ok (.aload_n 0, 1) := by decide +kernel
theorem dX6_differ_10 : decode cX6_differ 10 = .ok (.getfield 16, 3) := by decide +kernel
theorem dX6_differ_13 : decode cX6_differ 13 = .ok (.iload_n 2, 1) := by decide +kernel
theorem dX6_differ_14 : decode cX6_differ 14 = .ok (.baload, 1) := by decide +kernel
theorem dX6_differ_15 : decode cX6_differ 15 = .ok (.ifCond .ne 24, 3) := by decide +kernel
theorem dX6_differ_18 : decode cX6_differ 18 = .ok (.aload_n 0, 1) := by decide +kernel
theorem dX6_differ_19 : decode cX6_differ 19 = .ok (.iload_n 1, 1) := by decide +kernel
theorem dX6_differ_20 : decode cX6_differ 20 = .ok (.iload_n 2, 1) := by decide +kernel
theorem dX6_differ_21 : decode cX6_differ 21 = .ok (.invokevirtual 92, 3) := by decide +kernel
theorem dX6_differ_24 : decode cX6_differ 24 = .ok (.ifCond .eq 15, 3) := by decide +kernel
theorem dX6_differ_27 : decode cX6_differ 27 = .ok (.aload_n 0, 1) := by decide +kernel
theorem dX6_differ_28 : decode cX6_differ 28 = .ok (.iload_n 1, 1) := by decide +kernel
theorem dX6_differ_29 : decode cX6_differ 29 = .ok (.aload_n 0, 1) := by decide +kernel
theorem dX6_differ_30 : decode cX6_differ 30 = .ok (.getfield 73, 3) := by decide +kernel
theorem dX6_differ_33 : decode cX6_differ 33 = .ok (.invokevirtual 105, 3) := by decide +kernel
theorem dX6_differ_36 : decode cX6_differ 36 = .ok (.ifCond .ne 5, 3) := by decide +kernel
theorem dX6_differ_39 : decode cX6_differ 39 = .ok (.iconst 0, 1) := by decide +kernel
theorem dX6_differ_40 : decode cX6_differ 40 = .ok (.ireturn, 1) := by decide +kernel
theorem dX6_differ_41 : decode cX6_differ 41 = .ok (.aload_n 0, 1) := by decide +kernel
theorem dX6_differ_42 : decode cX6_differ 42 = .ok (.getfield 79, 3) := by decide +kernel
theorem dX6_differ_45 : decode cX6_differ 45 = .ok (.lstore_n 3, 1) := by decide +kernel
theorem dX6_differ_46 : decode cX6_differ 46 = .ok (.aload_n 0, 1) := by decide +kernel
theorem dX6_differ_47 : decode cX6_differ 47 = .ok (.iload_n 2, 1) := by decide +kernel
theorem dX6_differ_48 : decode cX6_differ 48 = .ok (.aload_n 0, 1) := by decide +kernel
theorem dX6_differ_49 : decode cX6_differ 49 = .ok (.getfield 76, 3) := by decide +kernel
theorem dX6_differ_52 : decode cX6_differ 52 = .ok (.invokevirtual 105, 3) := by decide +kernel
theorem dX6_differ_55 : decode cX6_differ 55 = .ok (.istore 5, 2) := by decide +kernel
theorem dX6_differ_57 : decode cX6_differ 57 = .ok (.aload_n 0, 1) := by decide +kernel
theorem dX6_differ_58 : decode cX6_differ 58 = .ok (.ldc2_w 109, 3) := by decide +kernel
theorem dX6_differ_61 : decode cX6_differ 61 = .ok (.lload_n 3, 1) := by decide +kernel
theorem dX6_differ_62 : decode cX6_differ 62 = .ok (.aload_n 0, 1) := by decide +kernel
theorem dX6_differ_63 : decode cX6_differ 63 = .ok (.getfield 79, 3) := by decide +kernel
theorem dX6_differ_66 : decode cX6_differ 66 = .ok (.lsub, 1) := by decide +kernel
theorem dX6_differ_67 : decode cX6_differ 67 = .ok (.lmul, 1) := by decide +kernel
theorem dX6_differ_68 : decode cX6_differ 68 = .ok (.aload_n 0, 1) := by decide +kernel
theorem dX6_differ_69 : decode cX6_differ 69 = .ok (.getfield 69, 3) := by decide +kernel
theorem dX6_differ_72 : decode cX6_differ 72 = .ok (.invokestatic 111, 3) := by decide +kernel
theorem dX6_differ_75 : decode cX6_differ 75 = .ok (.putfield 114, 3) := by decide +kernel
theorem dX6_differ_78 : decode cX6_differ 78 = .ok (.iload 5, 2) := by decide +kernel
theorem dX6_differ_80 : decode cX6_differ 80 = .ok (.ireturn, 1) := by decide +kernel
theorem dX6_difference_0 : decode cX6_difference 0 = .ok (.aload_n 0, 1) := by decide +kernel
theorem dX6_difference_1 : decode cX6_difference 1 = .ok (.iload_n 1, 1) := by decide +kernel
theorem dX6_difference_2 : decode cX6_difference 2 = .ok (.invokevirtual 58, 3) := by decide +kernel
theorem dX6_difference_5 : decode cX6_difference 5 = .ok (.ifCond .eq 16, 3) := by decide +kernel
theorem dX6_difference_8 : decode cX6_difference 8 = .ok (.aload_n 0, 1) := by decide +kernel
theorem dX6_difference_9 : decode cX6_difference 9 = .ok (.iload_n 2, 1) := by decide +kernel
theorem dX6_difference_10 : decode cX6_difference 10 = .ok (.invokevirtual 58, 3) := by decide +kernel
theorem dX6_difference_13 : decode cX6_difference 13 = .ok (.ifCond .eq 8, 3) := by decide +kernel
theorem dX6_difference_16 : decode cX6_difference 16 = .ok (.iload_n 1, 1) := by decide +kernel
theorem dX6_difference_17 : decode cX6_difference 17 = .ok (.iload_n 2, 1) := by decide +kernel
theorem dX6_difference_18 : decode cX6_difference 18 = .ok (.if_icmp .lt 6, 3) := by decide +kernel
theorem dX6_difference_21 : decode cX6_difference 21 = .ok (.ldc 117, 2) := by decide +kernel
theorem dX6_difference_23 : decode cX6_difference 23 = .ok (.ireturn, 1) := by decide +kernel
theorem dX6_difference_24 : decode cX6_difference 24 = .ok (.aload_n 0, 1) := by decide +kernel
theorem dX6_difference_25 : decode cX6_difference 25 = .ok (.iload_n 1, 1) := by decide +kernel
theorem dX6_difference_26 : decode cX6_difference 26 = .ok (.iload_n 2, 1) := by decide +kernel
theorem dX6_difference_27 : decode cX6_difference 27 = .ok (.invokevirtual 118, 3) := by decide +kernel
theorem dX6_difference_30 : decode cX6_difference 30 = .ok (.ifCond .eq 11, 3) := by decide +kernel
theorem dX6_difference_33 : decode cX6_difference 33 = .ok (.aload_n 0, 1) := by decide +kernel
theorem dX6_difference_34 : decode cX6_difference 34 = .ok (.getfield 114, 3) := by decide +kernel
theorem dX6_difference_37 : decode cX6_difference 37 = .ok (.l2i, 1) := by decide +kernel
theorem dX6_difference_38 : decode cX6_difference 38 = .ok (.goto 5, 3) := by decide +kernel
theorem dX6_difference_41 : decode cX6_difference 41 = .ok (.ldc 121, 2) := by decide +kernel
theorem dX6_difference_43 : decode cX6_difference 43 = .ok (.ireturn, 1) := by decide +kernel
theorem dX6_nets_0 : decode cX6_nets 0 = .ok (.iconst 0, 1) := by decide +kernel
theorem dX6_nets_1 : decode cX6_nets 1 = .ok (.istore_n 1, 1) := by decide +kernel
theorem dX6_nets_2 : decode cX6_nets 2 = .ok (.iload_n 1, 1) := by decide +kernel
theorem dX6_nets_3 : decode cX6_nets 3 = .ok (.aload_n 0, 1) := by decide +kernel
theorem dX6_nets_4 : decode cX6_nets 4 = .ok (.getfield 40, 3) := by decide +kernel
theorem dX6_nets_7 : decode cX6_nets 7 = .ok (.if_icmp .ge 16, 3) := by decide +kernel
theorem dX6_nets_10 : decode cX6_nets 10 = .ok (.aload_n 0, 1) := by decide +kernel
theorem dX6_nets_11 : decode cX6_nets 11 = .ok (.getfield 23, 3) := by decide +kernel
theorem dX6_nets_14 : decode cX6_nets 14 = .ok (.iload_n 1, 1) := by decide +kernel
theorem dX6_nets_15 : decode cX6_nets 15 = .ok (.iload_n 1, 1) := by decide +kernel
theorem dX6_nets_16 : decode cX6_nets 16 = .ok (.iastore, 1) := by decide +kernel
theorem dX6_nets_17 : decode cX6_nets 17 = .ok (.iinc 1 1, 3) := by decide +kernel
theorem dX6_nets_20 : decode cX6_nets 20 = .ok (.goto (-18), 3) := by decide +kernel
theorem dX6_nets_23 : decode cX6_nets 23 = .ok (.iconst 0, 1) := by decide +kernel
theorem dX6_nets_24 : decode cX6_nets 24 = .ok (.istore_n 1, 1) := by decide +kernel
theorem dX6_nets_25 : decode cX6_nets 25 = .ok (.iload_n 1, 1) := by decide +kernel
theorem dX6_nets_26 : decode cX6_nets 26 = .ok (.aload_n 0, 1) := by decide +kernel
theorem dX6_nets_27 : decode cX6_nets 27 = .ok (.getfield 40, 3) := by decide +kernel
theorem dX6_nets_30 : decode cX6_nets 30 = .ok (.if_icmp .ge 100, 3) := by decide +kernel
theorem dX6_nets_33 : decode cX6_nets 33 = .ok (.iconst 0, 1) := by decide +kernel
theorem dX6_nets_34 : decode cX6_nets 34 = .ok (.istore_n 2, 1) := by decide +kernel
theorem dX6_nets_35 : decode cX6_nets 35 = .ok (.iload_n 2, 1) := by decide +kernel
theorem dX6_nets_36 : decode cX6_nets 36 = .ok (.aload_n 0, 1) := by decide +kernel
theorem dX6_nets_37 : decode cX6_nets 37 = .ok (.getfield 40, 3) := by decide +kernel
theorem dX6_nets_40 : decode cX6_nets 40 = .ok (.if_icmp .ge 84, 3) := by decide +kernel
theorem dX6_nets_43 : decode cX6_nets 43 = .ok (.iload_n 2, 1) := by decide +kernel
theorem dX6_nets_44 : decode cX6_nets 44 = .ok (.iconst 1, 1) := by decide +kernel
theorem dX6_nets_45 : decode cX6_nets 45 = .ok (.iadd, 1) := by decide +kernel
theorem dX6_nets_46 : decode cX6_nets 46 = .ok (.istore_n 3, 1) := by decide +kernel
theorem dX6_nets_47 : decode cX6_nets 47 = .ok (.iload_n 3, 1) := by decide +kernel
theorem dX6_nets_48 : decode cX6_nets 48 = .ok (.aload_n 0, 1) := by decide +kernel
theorem dX6_nets_49 : decode cX6_nets 49 = .ok (.getfield 40, 3) := by decide +kernel
theorem dX6_nets_52 : decode cX6_nets 52 = .ok (.if_icmp .ge 66, 3) := by decide +kernel
theorem dX6_nets_55 : decode cX6_nets 55 = .ok (.aload_n 0, 1) := by decide +kernel
theorem dX6_nets_56 : decode cX6_nets 56 = .ok (.iload_n 2, 1) := by decide +kernel
theorem dX6_nets_57 : decode cX6_nets 57 = .ok (.iload_n 3, 1) := by decide +kernel
theorem dX6_nets_58 : decode cX6_nets 58 = .ok (.invokevirtual 118, 3) := by decide +kernel
theorem dX6_nets_61 : decode cX6_nets 61 = .ok (.ifCond .eq 51, 3) := by decide +kernel
theorem dX6_nets_64 : decode cX6_nets 64 = .ok (.aload_n 0, 1) := by decide +kernel
theorem dX6_nets_65 : decode cX6_nets 65 = .ok (.getfield 23, 3) := by decide +kernel
theorem dX6_nets_68 : decode cX6_nets 68 = .ok (.iload_n 2, 1) := by decide +kernel
theorem dX6_nets_69 : decode cX6_nets 69 = .ok (.iaload, 1) := by decide +kernel
theorem dX6_nets_70 : decode cX6_nets 70 = .ok (.aload_n 0, 1) := by decide +kernel
theorem dX6_nets_71 : decode cX6_nets 71 = .ok (.getfield 23, 3) := by decide +kernel
theorem dX6_nets_74 : decode cX6_nets 74 = .ok (.iload_n 3, 1) := by decide +kernel
theorem dX6_nets_75 : decode cX6_nets 75 = .ok (.iaload, 1) := by decide +kernel
theorem dX6_nets_76 : decode cX6_nets 76 = .ok (.if_icmp .ge 12, 3) := by decide +kernel
theorem dX6_nets_79 : decode cX6_nets 79 = .ok (.aload_n 0, 1) := by decide +kernel
theorem dX6_nets_80 : decode cX6_nets 80 = .ok (.getfield 23, 3) := by decide +kernel
theorem dX6_nets_83 : decode cX6_nets 83 = .ok (.iload_n 2, 1) := by decide +kernel
theorem dX6_nets_84 : decode cX6_nets 84 = .ok (.iaload, 1) := by decide +kernel
theorem dX6_nets_85 : decode cX6_nets 85 = .ok (.goto 9, 3) := by decide +kernel
theorem dX6_nets_88 : decode cX6_nets 88 = .ok (.aload_n 0, 1) := by decide +kernel
theorem dX6_nets_89 : decode cX6_nets 89 = .ok (.getfield 23, 3) := by decide +kernel
theorem dX6_nets_92 : decode cX6_nets 92 = .ok (.iload_n 3, 1) := by decide +kernel
theorem dX6_nets_93 : decode cX6_nets 93 = .ok (.iaload, 1) := by decide +kernel
theorem dX6_nets_94 : decode cX6_nets 94 = .ok (.istore 4, 2) := by decide +kernel
theorem dX6_nets_96 : decode cX6_nets 96 = .ok (.aload_n 0, 1) := by decide +kernel
theorem dX6_nets_97 : decode cX6_nets 97 = .ok (.getfield 23, 3) := by decide +kernel
theorem dX6_nets_100 : decode cX6_nets 100 = .ok (.iload_n 2, 1) := by decide +kernel
theorem dX6_nets_101 : decode cX6_nets 101 = .ok (.iload 4, 2) := by decide +kernel
theorem dX6_nets_103 : decode cX6_nets 103 = .ok (.iastore, 1) := by decide +kernel
theorem dX6_nets_104 : decode cX6_nets 104 = .ok (.aload_n 0, 1) := by decide +kernel
theorem dX6_nets_105 : decode cX6_nets 105 = .ok (.getfield 23, 3) := by decide +kernel
theorem dX6_nets_108 : decode cX6_nets 108 = .ok (.iload_n 3, 1) := by decide +kernel
theorem dX6_nets_109 : decode cX6_nets 109 = .ok (.iload 4, 2) := by decide +kernel
theorem dX6_nets_111 : decode cX6_nets 111 = .ok (.iastore, 1) := by decide +kernel
theorem dX6_nets_112 : decode cX6_nets 112 = .ok (.iinc 3 1, 3) := by decide +kernel
theorem dX6_nets_115 : decode cX6_nets 115 = .ok (.goto (-68), 3) := by decide +kernel
theorem dX6_nets_118 : decode cX6_nets 118 = .ok (.iinc 2 1, 3) := by decide +kernel
theorem dX6_nets_121 : decode cX6_nets 121 = .ok (.goto (-86), 3) := by decide +kernel
theorem dX6_nets_124 : decode cX6_nets 124 = .ok (.iinc 1 1, 3) := by decide +kernel
theorem dX6_nets_127 : decode cX6_nets 127 = .ok (.goto (-102), 3) := by decide +kernel
theorem dX6_nets_130 : decode cX6_nets 130 = .ok (.return_, 1) := by decide +kernel
theorem dX6_members_0 : decode cX6_members 0 = .ok (.iconst 0, 1) := by decide +kernel
theorem dX6_members_1 : decode cX6_members 1 = .ok (.istore_n 2, 1) := by decide +kernel
theorem dX6_members_2 : decode cX6_members 2 = .ok (.iconst 0, 1) := by decide +kernel
theorem dX6_members_3 : decode cX6_members 3 = .ok (.istore_n 3, 1) := by decide +kernel
theorem dX6_members_4 : decode cX6_members 4 = .ok (.iload_n 3, 1) := by decide +kernel
theorem dX6_members_5 : decode cX6_members 5 = .ok (.aload_n 0, 1) := by decide +kernel
theorem dX6_members_6 : decode cX6_members 6 = .ok (.getfield 40, 3) := by decide +kernel
theorem dX6_members_9 : decode cX6_members 9 = .ok (.if_icmp .ge 27, 3) := by decide +kernel
theorem dX6_members_12 : decode cX6_members 12 = .ok (.iload_n 2, 1) := by decide +kernel
theorem dX6_members_13 : decode cX6_members 13 = .ok (.aload_n 0, 1) := by decide +kernel
theorem dX6_members_14 : decode cX6_members 14 = .ok (.getfield 23, 3) := by decide +kernel
theorem dX6_members_17 : decode cX6_members 17 = .ok (.iload_n 3, 1) := by decide +kernel
theorem dX6_members_18 : decode cX6_members 18 = .ok (.iaload, 1) := by decide +kernel
theorem dX6_members_19 : decode cX6_members 19 = .ok (.iload_n 1, 1) := by decide +kernel
theorem dX6_members_20 : decode cX6_members 20 = .ok (.if_icmp .ne 7, 3) := by decide +kernel
theorem dX6_members_23 : decode cX6_members 23 = .ok (.iconst 1, 1) := by decide +kernel
theorem dX6_members_24 : decode cX6_members 24 = .ok (.goto 4, 3) := by decide +kernel
theorem dX6_members_27 : decode cX6_members 27 = .ok (.iconst 0, 1) := by decide +kernel
theorem dX6_members_28 : decode cX6_members 28 = .ok (.iadd, 1) := by decide +kernel
theorem dX6_members_29 : decode cX6_members 29 = .ok (.istore_n 2, 1) := by decide +kernel
theorem dX6_members_30 : decode cX6_members 30 = .ok (.iinc 3 1, 3) := by decide +kernel
theorem dX6_members_33 : decode cX6_members 33 = .ok (.goto (-29), 3) := by decide +kernel
theorem dX6_members_36 : decode cX6_members 36 = .ok (.iload_n 2, 1) := by decide +kernel
theorem dX6_members_37 : decode cX6_members 37 = .ok (.ireturn, 1) := by decide +kernel
theorem dX6_net_0 : decode cX6_net 0 = .ok (.aload_n 0, 1) := by decide +kernel
theorem dX6_net_1 : decode cX6_net 1 = .ok (.invokevirtual 122, 3) := by decide +kernel
theorem dX6_net_4 : decode cX6_net 4 = .ok (.iconst 0, 1) := by decide +kernel
theorem dX6_net_5 : decode cX6_net 5 = .ok (.istore_n 2, 1) := by decide +kernel
theorem dX6_net_6 : decode cX6_net 6 = .ok (.iconst 0, 1) := by decide +kernel
theorem dX6_net_7 : decode cX6_net 7 = .ok (.istore_n 3, 1) := by decide +kernel
theorem dX6_net_8 : decode cX6_net 8 = .ok (.iconst 0, 1) := by decide +kernel
theorem dX6_net_9 : decode cX6_net 9 = .ok (.istore 4, 2) := by decide +kernel
theorem dX6_net_11 : decode cX6_net 11 = .ok (.iconst 0, 1) := by decide +kernel
theorem dX6_net_12 : decode cX6_net 12 = .ok (.istore 5, 2) := by decide +kernel
theorem dX6_net_14 : decode cX6_net 14 = .ok (.iload 5, 2) := by decide +kernel
theorem dX6_net_16 : decode cX6_net 16 = .ok (.aload_n 0, 1) := by decide +kernel
theorem dX6_net_17 : decode cX6_net 17 = .ok (.getfield 40, 3) := by decide +kernel
theorem dX6_net_20 : decode cX6_net 20 = .ok (.if_icmp .ge 92, 3) := by decide +kernel
theorem dX6_net_23 : decode cX6_net 23 = .ok (.iload_n 3, 1) := by decide +kernel
theorem dX6_net_24 : decode cX6_net 24 = .ok (.aload_n 0, 1) := by decide +kernel
theorem dX6_net_25 : decode cX6_net 25 = .ok (.iload 5, 2) := by decide +kernel
theorem dX6_net_27 : decode cX6_net 27 = .ok (.invokevirtual 125, 3) := by decide +kernel
theorem dX6_net_30 : decode cX6_net 30 = .ok (.iconst 1, 1) := by decide +kernel
theorem dX6_net_31 : decode cX6_net 31 = .ok (.if_icmp .le 7, 3) := by decide +kernel
theorem dX6_net_34 : decode cX6_net 34 = .ok (.iconst 1, 1) := by decide +kernel
theorem dX6_net_35 : decode cX6_net 35 = .ok (.goto 4, 3) := by decide +kernel
theorem dX6_net_38 : decode cX6_net 38 = .ok (.iconst 0, 1) := by decide +kernel
theorem dX6_net_39 : decode cX6_net 39 = .ok (.iadd, 1) := by decide +kernel
theorem dX6_net_40 : decode cX6_net 40 = .ok (.istore_n 3, 1) := by decide +kernel
theorem dX6_net_41 : decode cX6_net 41 = .ok (.iload 4, 2) := by decide +kernel
theorem dX6_net_43 : decode cX6_net 43 = .ok (.aload_n 0, 1) := by decide +kernel
theorem dX6_net_44 : decode cX6_net 44 = .ok (.aload_n 0, 1) := by decide +kernel
theorem dX6_net_45 : decode cX6_net 45 = .ok (.getfield 23, 3) := by decide +kernel
theorem dX6_net_48 : decode cX6_net 48 = .ok (.iload 5, 2) := by decide +kernel
theorem dX6_net_50 : decode cX6_net 50 = .ok (.iaload, 1) := by decide +kernel
theorem dX6_net_51 : decode cX6_net 51 = .ok (.invokevirtual 125, 3) := by decide +kernel
theorem dX6_net_54 : decode cX6_net 54 = .ok (.iconst 1, 1) := by decide +kernel
theorem dX6_net_55 : decode cX6_net 55 = .ok (.if_icmp .ne 7, 3) := by decide +kernel
theorem dX6_net_58 : decode cX6_net 58 = .ok (.iconst 1, 1) := by decide +kernel
theorem dX6_net_59 : decode cX6_net 59 = .ok (.goto 4, 3) := by decide +kernel
theorem dX6_net_62 : decode cX6_net 62 = .ok (.iconst 0, 1) := by decide +kernel
theorem dX6_net_63 : decode cX6_net 63 = .ok (.iadd, 1) := by decide +kernel
theorem dX6_net_64 : decode cX6_net 64 = .ok (.istore 4, 2) := by decide +kernel
theorem dX6_net_66 : decode cX6_net 66 = .ok (.iload 5, 2) := by decide +kernel
theorem dX6_net_68 : decode cX6_net 68 = .ok (.iconst 1, 1) := by decide +kernel
theorem dX6_net_69 : decode cX6_net 69 = .ok (.iadd, 1) := by decide +kernel
theorem dX6_net_70 : decode cX6_net 70 = .ok (.istore 6, 2) := by decide +kernel
theorem dX6_net_72 : decode cX6_net 72 = .ok (.iload 6, 2) := by decide +kernel
theorem dX6_net_74 : decode cX6_net 74 = .ok (.aload_n 0, 1) := by decide +kernel
theorem dX6_net_75 : decode cX6_net 75 = .ok (.getfield 40, 3) := by decide +kernel
theorem dX6_net_78 : decode cX6_net 78 = .ok (.if_icmp .ge 28, 3) := by decide +kernel
theorem dX6_net_81 : decode cX6_net 81 = .ok (.iload_n 2, 1) := by decide +kernel
theorem dX6_net_82 : decode cX6_net 82 = .ok (.aload_n 0, 1) := by decide +kernel
theorem dX6_net_83 : decode cX6_net 83 = .ok (.iload 5, 2) := by decide +kernel
theorem dX6_net_85 : decode cX6_net 85 = .ok (.iload 6, 2) := by decide +kernel
theorem dX6_net_87 : decode cX6_net 87 = .ok (.invokevirtual 118, 3) := by decide +kernel
theorem dX6_net_90 : decode cX6_net 90 = .ok (.ifCond .eq 7, 3) := by decide +kernel
theorem dX6_net_93 : decode cX6_net 93 = .ok (.iconst 1, 1) := by decide +kernel
theorem dX6_net_94 : decode cX6_net 94 = .ok (.goto 4, 3) := by decide +kernel
theorem dX6_net_97 : decode cX6_net 97 = .ok (.iconst 0, 1) := by decide +kernel
theorem dX6_net_98 : decode cX6_net 98 = .ok (.iadd, 1) := by decide +kernel
theorem dX6_net_99 : decode cX6_net 99 = .ok (.istore_n 2, 1) := by decide +kernel
theorem dX6_net_100 : decode cX6_net 100 = .ok (.iinc 6 1, 3) := by decide +kernel
theorem dX6_net_103 : decode cX6_net 103 = .ok (.goto (-31), 3) := by decide +kernel
theorem dX6_net_106 : decode cX6_net 106 = .ok (.iinc 5 1, 3) := by decide +kernel
theorem dX6_net_109 : decode cX6_net 109 = .ok (.goto (-95), 3) := by decide +kernel
theorem dX6_net_112 : decode cX6_net 112 = .ok (.iload_n 1, 1) := by decide +kernel
theorem dX6_net_113 : decode cX6_net 113 = .ok (.ifCond .ne 7, 3) := by decide +kernel
theorem dX6_net_116 : decode cX6_net 116 = .ok (.iload_n 2, 1) := by decide +kernel
theorem dX6_net_117 : decode cX6_net 117 = .ok (.goto 23, 3) := by decide +kernel
theorem dX6_net_120 : decode cX6_net 120 = .ok (.iload_n 1, 1) := by decide +kernel
theorem dX6_net_121 : decode cX6_net 121 = .ok (.iconst 1, 1) := by decide +kernel
theorem dX6_net_122 : decode cX6_net 122 = .ok (.if_icmp .ne 7, 3) := by decide +kernel
theorem dX6_net_125 : decode cX6_net 125 = .ok (.iload_n 3, 1) := by decide +kernel
theorem dX6_net_126 : decode cX6_net 126 = .ok (.goto 14, 3) := by decide +kernel
theorem dX6_net_129 : decode cX6_net 129 = .ok (.iload_n 1, 1) := by decide +kernel
theorem dX6_net_130 : decode cX6_net 130 = .ok (.iconst 2, 1) := by decide +kernel
theorem dX6_net_131 : decode cX6_net 131 = .ok (.if_icmp .ne 8, 3) := by decide +kernel
theorem dX6_net_134 : decode cX6_net 134 = .ok (.iload 4, 2) := by decide +kernel
theorem dX6_net_136 : decode cX6_net 136 = .ok (.goto 4, 3) := by decide +kernel
theorem dX6_net_139 : decode cX6_net 139 = .ok (.iconst (-1), 1) := by decide +kernel
theorem dX6_net_140 : decode cX6_net 140 = .ok (.ireturn, 1) := by decide +kernel
theorem dX6_solves_0 : decode cX6_solves 0 = .ok (.iconst 0, 1) := by decide +kernel
theorem dX6_solves_1 : decode cX6_solves 1 = .ok (.istore_n 2, 1) := by decide +kernel
theorem dX6_solves_2 : decode cX6_solves 2 = .ok (.iconst 0, 1) := by decide +kernel
theorem dX6_solves_3 : decode cX6_solves 3 = .ok (.istore_n 3, 1) := by decide +kernel
theorem dX6_solves_4 : decode cX6_solves 4 = .ok (.iload_n 3, 1) := by decide +kernel
theorem dX6_solves_5 : decode cX6_solves 5 = .ok (.aload_n 0, 1) := by decide +kernel
theorem dX6_solves_6 : decode cX6_solves 6 = .ok (.getfield 40, 3) := by decide +kernel
theorem dX6_solves_9 : decode cX6_solves 9 = .ok (.if_icmp .ge 29, 3) := by decide +kernel
theorem dX6_solves_12 : decode cX6_solves 12 = .ok (.aload_n 0, 1) := by decide +kernel
theorem dX6_solves_13 : decode cX6_solves 13 = .ok (.getfield 23, 3) := by decide +kernel
theorem dX6_solves_16 : decode cX6_solves 16 = .ok (.iload_n 3, 1) := by decide +kernel
theorem dX6_solves_17 : decode cX6_solves 17 = .ok (.iaload, 1) := by decide +kernel
theorem dX6_solves_18 : decode cX6_solves 18 = .ok (.iload_n 1, 1) := by decide +kernel
theorem dX6_solves_19 : decode cX6_solves 19 = .ok (.if_icmp .ne 13, 3) := by decide +kernel
theorem dX6_solves_22 : decode cX6_solves 22 = .ok (.aload_n 0, 1) := by decide +kernel
theorem dX6_solves_23 : decode cX6_solves 23 = .ok (.getfield 26, 3) := by decide +kernel
theorem dX6_solves_26 : decode cX6_solves 26 = .ok (.iload_n 2, 1) := by decide +kernel
theorem dX6_solves_27 : decode cX6_solves 27 = .ok (.iload_n 3, 1) := by decide +kernel
theorem dX6_solves_28 : decode cX6_solves 28 = .ok (.iastore, 1) := by decide +kernel
theorem dX6_solves_29 : decode cX6_solves 29 = .ok (.iinc 2 1, 3) := by decide +kernel
theorem dX6_solves_32 : decode cX6_solves 32 = .ok (.iinc 3 1, 3) := by decide +kernel
theorem dX6_solves_35 : decode cX6_solves 35 = .ok (.goto (-31), 3) := by decide +kernel
theorem dX6_solves_38 : decode cX6_solves 38 = .ok (.iconst 0, 1) := by decide +kernel
theorem dX6_solves_39 : decode cX6_solves 39 = .ok (.istore_n 3, 1) := by decide +kernel
theorem dX6_solves_40 : decode cX6_solves 40 = .ok (.iload_n 3, 1) := by decide +kernel
theorem dX6_solves_41 : decode cX6_solves 41 = .ok (.bipush 64, 2) := by decide +kernel
theorem dX6_solves_43 : decode cX6_solves 43 = .ok (.if_icmp .ge 16, 3) := by decide +kernel
theorem dX6_solves_46 : decode cX6_solves 46 = .ok (.aload_n 0, 1) := by decide +kernel
theorem dX6_solves_47 : decode cX6_solves 47 = .ok (.getfield 29, 3) := by decide +kernel
theorem dX6_solves_50 : decode cX6_solves 50 = .ok (.iload_n 3, 1) := by decide +kernel
theorem dX6_solves_51 : decode cX6_solves 51 = .ok (.lconst 0, 1) := by decide +kernel
theorem dX6_solves_52 : decode cX6_solves 52 = .ok (.lastore, 1) := by decide +kernel
theorem dX6_solves_53 : decode cX6_solves 53 = .ok (.iinc 3 1, 3) := by decide +kernel
theorem dX6_solves_56 : decode cX6_solves 56 = .ok (.goto (-16), 3) := by decide +kernel
theorem dX6_solves_59 : decode cX6_solves 59 = .ok (.iconst 0, 1) := by decide +kernel
theorem dX6_solves_60 : decode cX6_solves 60 = .ok (.istore_n 3, 1) := by decide +kernel
theorem dX6_solves_61 : decode cX6_solves 61 = .ok (.iload_n 3, 1) := by decide +kernel
theorem dX6_solves_62 : decode cX6_solves 62 = .ok (.iload_n 2, 1) := by decide +kernel
theorem dX6_solves_63 : decode cX6_solves 63 = .ok (.if_icmp .ge 159, 3) := by decide +kernel
theorem dX6_solves_66 : decode cX6_solves 66 = .ok (.iload_n 3, 1) := by decide +kernel
theorem dX6_solves_67 : decode cX6_solves 67 = .ok (.iconst 1, 1) := by decide +kernel
theorem dX6_solves_68 : decode cX6_solves 68 = .ok (.iadd, 1) := by decide +kernel
theorem dX6_solves_69 : decode cX6_solves 69 = .ok (.istore 4, 2) := by decide +kernel
theorem dX6_solves_71 : decode cX6_solves 71 = .ok (.iload 4, 2) := by decide +kernel
theorem dX6_solves_73 : decode cX6_solves 73 = .ok (.iload_n 2, 1) := by decide +kernel
theorem dX6_solves_74 : decode cX6_solves 74 = .ok (.if_icmp .ge 142, 3) := by decide +kernel
theorem dX6_solves_77 : decode cX6_solves 77 = .ok (.aload_n 0, 1) := by decide +kernel
theorem dX6_solves_78 : decode cX6_solves 78 = .ok (.aload_n 0, 1) := by decide +kernel
theorem dX6_solves_79 : decode cX6_solves 79 = .ok (.getfield 26, 3) := by decide +kernel
theorem dX6_solves_82 : decode cX6_solves 82 = .ok (.iload_n 3, 1) := by decide +kernel
theorem dX6_solves_83 : decode cX6_solves 83 = .ok (.iaload, 1) := by decide +kernel
theorem dX6_solves_84 : decode cX6_solves 84 = .ok (.aload_n 0, 1) := by decide +kernel
theorem dX6_solves_85 : decode cX6_solves 85 = .ok (.getfield 26, 3) := by decide +kernel
theorem dX6_solves_88 : decode cX6_solves 88 = .ok (.iload 4, 2) := by decide +kernel
theorem dX6_solves_90 : decode cX6_solves 90 = .ok (.iaload, 1) := by decide +kernel
theorem dX6_solves_91 : decode cX6_solves 91 = .ok (.invokevirtual 118, 3) := by decide +kernel
theorem dX6_solves_94 : decode cX6_solves 94 = .ok (.ifCond .eq 116, 3) := by decide +kernel
theorem dX6_solves_97 : decode cX6_solves 97 = .ok (.aload_n 0, 1) := by decide +kernel
theorem dX6_solves_98 : decode cX6_solves 98 = .ok (.getfield 29, 3) := by decide +kernel
theorem dX6_solves_101 : decode cX6_solves 101 = .ok (.bipush 8, 2) := by decide +kernel
theorem dX6_solves_103 : decode cX6_solves 103 = .ok (.iload_n 3, 1) := by decide +kernel
theorem dX6_solves_104 : decode cX6_solves 104 = .ok (.imul, 1) := by decide +kernel
theorem dX6_solves_105 : decode cX6_solves 105 = .ok (.iload_n 3, 1) := by decide +kernel
theorem dX6_solves_106 : decode cX6_solves 106 = .ok (.iadd, 1) := by decide +kernel
theorem dX6_solves_107 : decode cX6_solves 107 = .ok (.dup2, 1) := by decide +kernel
theorem dX6_solves_108 : decode cX6_solves 108 = .ok (.laload, 1) := by decide +kernel
theorem dX6_solves_109 : decode cX6_solves 109 = .ok (.lconst 1, 1) := by decide +kernel
theorem dX6_solves_110 : decode cX6_solves 110 = .ok (.ladd, 1) := by decide +kernel
theorem dX6_solves_111 : decode cX6_solves 111 = .ok (.lastore, 1) := by decide +kernel
theorem dX6_solves_112 : decode cX6_solves 112 = .ok (.aload_n 0, 1) := by decide +kernel
theorem dX6_solves_113 : decode cX6_solves 113 = .ok (.getfield 29, 3) := by decide +kernel
theorem dX6_solves_116 : decode cX6_solves 116 = .ok (.bipush 8, 2) := by decide +kernel
theorem dX6_solves_118 : decode cX6_solves 118 = .ok (.iload 4, 2) := by decide +kernel
theorem dX6_solves_120 : decode cX6_solves 120 = .ok (.imul, 1) := by decide +kernel
theorem dX6_solves_121 : decode cX6_solves 121 = .ok (.iload 4, 2) := by decide +kernel
theorem dX6_solves_123 : decode cX6_solves 123 = .ok (.iadd, 1) := by decide +kernel
theorem dX6_solves_124 : decode cX6_solves 124 = .ok (.dup2, 1) := by decide +kernel
theorem dX6_solves_125 : decode cX6_solves 125 = .ok (.laload, 1) := by decide +kernel
theorem dX6_solves_126 : decode cX6_solves 126 = .ok (.lconst 1, 1) := by decide +kernel
theorem dX6_solves_127 : decode cX6_solves 127 = .ok (.ladd, 1) := by decide +kernel
theorem dX6_solves_128 : decode cX6_solves 128 = .ok (.lastore, 1) := by decide +kernel
theorem dX6_solves_129 : decode cX6_solves 129 = .ok (.aload_n 0, 1) := by decide +kernel
theorem dX6_solves_130 : decode cX6_solves 130 = .ok (.getfield 29, 3) := by decide +kernel
theorem dX6_solves_133 : decode cX6_solves 133 = .ok (.bipush 8, 2) := by decide +kernel
theorem dX6_solves_135 : decode cX6_solves 135 = .ok (.iload_n 3, 1) := by decide +kernel
theorem dX6_solves_136 : decode cX6_solves 136 = .ok (.imul, 1) := by decide +kernel
theorem dX6_solves_137 : decode cX6_solves 137 = .ok (.iload 4, 2) := by decide +kernel
theorem dX6_solves_139 : decode cX6_solves 139 = .ok (.iadd, 1) := by decide +kernel
theorem dX6_solves_140 : decode cX6_solves 140 = .ok (.dup2, 1) := by decide +kernel
theorem dX6_solves_141 : decode cX6_solves 141 = .ok (.laload, 1) := by decide +kernel
theorem dX6_solves_142 : decode cX6_solves 142 = .ok (.lconst 1, 1) := by decide +kernel
theorem dX6_solves_143 : decode cX6_solves 143 = .ok (.lsub, 1) := by decide +kernel
theorem dX6_solves_144 : decode cX6_solves 144 = .ok (.lastore, 1) := by decide +kernel
theorem dX6_solves_145 : decode cX6_solves 145 = .ok (.aload_n 0, 1) := by decide +kernel
theorem dX6_solves_146 : decode cX6_solves 146 = .ok (.getfield 29, 3) := by decide +kernel
theorem dX6_solves_149 : decode cX6_solves 149 = .ok (.bipush 8, 2) := by decide +kernel
theorem dX6_solves_151 : decode cX6_solves 151 = .ok (.iload 4, 2) := by decide +kernel
theorem dX6_solves_153 : decode cX6_solves 153 = .ok (.imul, 1) := by decide +kernel
theorem dX6_solves_154 : decode cX6_solves 154 = .ok (.iload_n 3, 1) := by decide +kernel
theorem dX6_solves_155 : decode cX6_solves 155 = .ok (.iadd, 1) := by decide +kernel
theorem dX6_solves_156 : decode cX6_solves 156 = .ok (.dup2, 1) := by decide +kernel
theorem dX6_solves_157 : decode cX6_solves 157 = .ok (.laload, 1) := by decide +kernel
theorem dX6_solves_158 : decode cX6_solves 158 = .ok (.iload_n 3, 1) := by decide +kernel
theorem dX6_solves_159 : decode cX6_solves 159 = .ok (.ifCond .ne 7, 3) := by decide +kernel
theorem dX6_solves_162 : decode cX6_solves 162 = .ok (.lconst 0, 1) := by decide +kernel
theorem dX6_solves_163 : decode cX6_solves 163 = .ok (.goto 4, 3) := by decide +kernel
theorem dX6_solves_166 : decode cX6_solves 166 = .ok (.lconst 1, 1) := by decide +kernel
theorem dX6_solves_167 : decode cX6_solves 167 = .ok (.lsub, 1) := by decide +kernel
theorem dX6_solves_168 : decode cX6_solves 168 = .ok (.lastore, 1) := by decide +kernel
theorem dX6_solves_169 : decode cX6_solves 169 = .ok (.aload_n 0, 1) := by decide +kernel
theorem dX6_solves_170 : decode cX6_solves 170 = .ok (.getfield 29, 3) := by decide +kernel
theorem dX6_solves_173 : decode cX6_solves 173 = .ok (.bipush 8, 2) := by decide +kernel
theorem dX6_solves_175 : decode cX6_solves 175 = .ok (.iload_n 3, 1) := by decide +kernel
theorem dX6_solves_176 : decode cX6_solves 176 = .ok (.imul, 1) := by decide +kernel
theorem dX6_solves_177 : decode cX6_solves 177 = .ok (.dup2, 1) := by decide +kernel
theorem dX6_solves_178 : decode cX6_solves 178 = .ok (.laload, 1) := by decide +kernel
theorem dX6_solves_179 : decode cX6_solves 179 = .ok (.iload_n 3, 1) := by decide +kernel
theorem dX6_solves_180 : decode cX6_solves 180 = .ok (.ifCond .ne 7, 3) := by decide +kernel
theorem dX6_solves_183 : decode cX6_solves 183 = .ok (.lconst 0, 1) := by decide +kernel
theorem dX6_solves_184 : decode cX6_solves 184 = .ok (.goto 7, 3) := by decide +kernel
theorem dX6_solves_187 : decode cX6_solves 187 = .ok (.aload_n 0, 1) := by decide +kernel
theorem dX6_solves_188 : decode cX6_solves 188 = .ok (.getfield 114, 3) := by decide +kernel
theorem dX6_solves_191 : decode cX6_solves 191 = .ok (.ladd, 1) := by decide +kernel
theorem dX6_solves_192 : decode cX6_solves 192 = .ok (.lastore, 1) := by decide +kernel
theorem dX6_solves_193 : decode cX6_solves 193 = .ok (.aload_n 0, 1) := by decide +kernel
theorem dX6_solves_194 : decode cX6_solves 194 = .ok (.getfield 29, 3) := by decide +kernel
theorem dX6_solves_197 : decode cX6_solves 197 = .ok (.bipush 8, 2) := by decide +kernel
theorem dX6_solves_199 : decode cX6_solves 199 = .ok (.iload 4, 2) := by decide +kernel
theorem dX6_solves_201 : decode cX6_solves 201 = .ok (.imul, 1) := by decide +kernel
theorem dX6_solves_202 : decode cX6_solves 202 = .ok (.dup2, 1) := by decide +kernel
theorem dX6_solves_203 : decode cX6_solves 203 = .ok (.laload, 1) := by decide +kernel
theorem dX6_solves_204 : decode cX6_solves 204 = .ok (.aload_n 0, 1) := by decide +kernel
theorem dX6_solves_205 : decode cX6_solves 205 = .ok (.getfield 114, 3) := by decide +kernel
theorem dX6_solves_208 : decode cX6_solves 208 = .ok (.lsub, 1) := by decide +kernel
theorem dX6_solves_209 : decode cX6_solves 209 = .ok (.lastore, 1) := by decide +kernel
theorem dX6_solves_210 : decode cX6_solves 210 = .ok (.iinc 4 1, 3) := by decide +kernel
theorem dX6_solves_213 : decode cX6_solves 213 = .ok (.goto (-142), 3) := by decide +kernel
theorem dX6_solves_216 : decode cX6_solves 216 = .ok (.iinc 3 1, 3) := by decide +kernel
theorem dX6_solves_219 : decode cX6_solves 219 = .ok (.goto (-158), 3) := by decide +kernel
theorem dX6_solves_222 : decode cX6_solves 222 = .ok (.lconst 1, 1) := by decide +kernel
theorem dX6_solves_223 : decode cX6_solves 223 = .ok (.lstore_n 3, 1) := by decide +kernel
theorem dX6_solves_224 : decode cX6_solves 224 = .ok (.iconst 1, 1) := by decide +kernel
theorem dX6_solves_225 : decode cX6_solves 225 = .ok (.istore 5, 2) := by decide +kernel
theorem dX6_solves_227 : decode cX6_solves 227 = .ok (.iload 5, 2) := by decide +kernel
theorem dX6_solves_229 : decode cX6_solves 229 = .ok (.iload_n 2, 1) := by decide +kernel
theorem dX6_solves_230 : decode cX6_solves 230 = .ok (.if_icmp .ge 31, 3) := by decide +kernel
theorem dX6_solves_233 : decode cX6_solves 233 = .ok (.aload_n 0, 1) := by decide +kernel
theorem dX6_solves_234 : decode cX6_solves 234 = .ok (.iload 5, 2) := by decide +kernel
theorem dX6_solves_236 : decode cX6_solves 236 = .ok (.iload_n 2, 1) := by decide +kernel
theorem dX6_solves_237 : decode cX6_solves 237 = .ok (.lload_n 3, 1) := by decide +kernel
theorem dX6_solves_238 : decode cX6_solves 238 = .ok (.invokevirtual 129, 3) := by decide +kernel
theorem dX6_solves_241 : decode cX6_solves 241 = .ok (.aload_n 0, 1) := by decide +kernel
theorem dX6_solves_242 : decode cX6_solves 242 = .ok (.getfield 29, 3) := by decide +kernel
theorem dX6_solves_245 : decode cX6_solves 245 = .ok (.bipush 8, 2) := by decide +kernel
theorem dX6_solves_247 : decode cX6_solves 247 = .ok (.iload 5, 2) := by decide +kernel
theorem dX6_solves_249 : decode cX6_solves 249 = .ok (.imul, 1) := by decide +kernel
theorem dX6_solves_250 : decode cX6_solves 250 = .ok (.iload 5, 2) := by decide +kernel
theorem dX6_solves_252 : decode cX6_solves 252 = .ok (.iadd, 1) := by decide +kernel
theorem dX6_solves_253 : decode cX6_solves 253 = .ok (.laload, 1) := by decide +kernel
theorem dX6_solves_254 : decode cX6_solves 254 = .ok (.lstore_n 3, 1) := by decide +kernel
theorem dX6_solves_255 : decode cX6_solves 255 = .ok (.iinc 5 1, 3) := by decide +kernel
theorem dX6_solves_258 : decode cX6_solves 258 = .ok (.goto (-31), 3) := by decide +kernel
theorem dX6_solves_261 : decode cX6_solves 261 = .ok (.aload_n 0, 1) := by decide +kernel
theorem dX6_solves_262 : decode cX6_solves 262 = .ok (.iload_n 2, 1) := by decide +kernel
theorem dX6_solves_263 : decode cX6_solves 263 = .ok (.lload_n 3, 1) := by decide +kernel
theorem dX6_solves_264 : decode cX6_solves 264 = .ok (.invokevirtual 133, 3) := by decide +kernel
theorem dX6_solves_267 : decode cX6_solves 267 = .ok (.return_, 1) := by decide +kernel
theorem dX6_clears_0 : decode cX6_clears 0 = .ok (.iload_n 1, 1) := by decide +kernel
theorem dX6_clears_1 : decode cX6_clears 1 = .ok (.iconst 1, 1) := by decide +kernel
theorem dX6_clears_2 : decode cX6_clears 2 = .ok (.iadd, 1) := by decide +kernel
theorem dX6_clears_3 : decode cX6_clears 3 = .ok (.istore 5, 2) := by decide +kernel
theorem dX6_clears_5 : decode cX6_clears 5 = .ok (.iload 5, 2) := by decide +kernel
theorem dX6_clears_7 : decode cX6_clears 7 = .ok (.iload_n 2, 1) := by decide +kernel
theorem dX6_clears_8 : decode cX6_clears 8 = .ok (.if_icmp .ge 105, 3) := by decide +kernel
theorem dX6_clears_11 : decode cX6_clears 11 = .ok (.aload_n 0, 1) := by decide +kernel
theorem dX6_clears_12 : decode cX6_clears 12 = .ok (.getfield 29, 3) := by decide +kernel
theorem dX6_clears_15 : decode cX6_clears 15 = .ok (.bipush 8, 2) := by decide +kernel
theorem dX6_clears_17 : decode cX6_clears 17 = .ok (.iload 5, 2) := by decide +kernel
theorem dX6_clears_19 : decode cX6_clears 19 = .ok (.imul, 1) := by decide +kernel
theorem dX6_clears_20 : decode cX6_clears 20 = .ok (.iload_n 1, 1) := by decide +kernel
theorem dX6_clears_21 : decode cX6_clears 21 = .ok (.iadd, 1) := by decide +kernel
theorem dX6_clears_22 : decode cX6_clears 22 = .ok (.laload, 1) := by decide +kernel
theorem dX6_clears_23 : decode cX6_clears 23 = .ok (.lstore 6, 2) := by decide +kernel
theorem dX6_clears_25 : decode cX6_clears 25 = .ok (.iconst 0, 1) := by decide +kernel
theorem dX6_clears_26 : decode cX6_clears 26 = .ok (.istore 8, 2) := by decide +kernel
theorem dX6_clears_28 : decode cX6_clears 28 = .ok (.iload 8, 2) := by decide +kernel
theorem dX6_clears_30 : decode cX6_clears 30 = .ok (.iload_n 2, 1) := by decide +kernel
theorem dX6_clears_31 : decode cX6_clears 31 = .ok (.if_icmp .ge 76, 3) := by decide +kernel
theorem dX6_clears_34 : decode cX6_clears 34 = .ok (.iload 8, 2) := by decide +kernel
theorem dX6_clears_36 : decode cX6_clears 36 = .ok (.ifCond .eq 9, 3) := by decide +kernel
theorem dX6_clears_39 : decode cX6_clears 39 = .ok (.iload 8, 2) := by decide +kernel
theorem dX6_clears_41 : decode cX6_clears 41 = .ok (.iload_n 1, 1) := by decide +kernel
theorem dX6_clears_42 : decode cX6_clears 42 = .ok (.if_icmp .lt 59, 3) := by decide +kernel
theorem dX6_clears_45 : decode cX6_clears 45 = .ok (.aload_n 0, 1) := by decide +kernel
theorem dX6_clears_46 : decode cX6_clears 46 = .ok (.getfield 29, 3) := by decide +kernel
theorem dX6_clears_49 : decode cX6_clears 49 = .ok (.bipush 8, 2) := by decide +kernel
theorem dX6_clears_51 : decode cX6_clears 51 = .ok (.iload 5, 2) := by decide +kernel
theorem dX6_clears_53 : decode cX6_clears 53 = .ok (.imul, 1) := by decide +kernel
theorem dX6_clears_54 : decode cX6_clears 54 = .ok (.iload 8, 2) := by decide +kernel
theorem dX6_clears_56 : decode cX6_clears 56 = .ok (.iadd, 1) := by decide +kernel
theorem dX6_clears_57 : decode cX6_clears 57 = .ok (.aload_n 0, 1) := by decide +kernel
theorem dX6_clears_58 : decode cX6_clears 58 = .ok (.getfield 29, 3) := by decide +kernel
theorem dX6_clears_61 : decode cX6_clears 61 = .ok (.bipush 8, 2) := by decide +kernel
theorem dX6_clears_63 : decode cX6_clears 63 = .ok (.iload 5, 2) := by decide +kernel
theorem dX6_clears_65 : decode cX6_clears 65 = .ok (.imul, 1) := by decide +kernel
theorem dX6_clears_66 : decode cX6_clears 66 = .ok (.iload 8, 2) := by decide +kernel
theorem dX6_clears_68 : decode cX6_clears 68 = .ok (.iadd, 1) := by decide +kernel
theorem dX6_clears_69 : decode cX6_clears 69 = .ok (.laload, 1) := by decide +kernel
theorem dX6_clears_70 : decode cX6_clears 70 = .ok (.aload_n 0, 1) := by decide +kernel
theorem dX6_clears_71 : decode cX6_clears 71 = .ok (.getfield 29, 3) := by decide +kernel
theorem dX6_clears_74 : decode cX6_clears 74 = .ok (.bipush 8, 2) := by decide +kernel
theorem dX6_clears_76 : decode cX6_clears 76 = .ok (.iload_n 1, 1) := by decide +kernel
theorem dX6_clears_77 : decode cX6_clears 77 = .ok (.imul, 1) := by decide +kernel
theorem dX6_clears_78 : decode cX6_clears 78 = .ok (.iload_n 1, 1) := by decide +kernel
theorem dX6_clears_79 : decode cX6_clears 79 = .ok (.iadd, 1) := by decide +kernel
theorem dX6_clears_80 : decode cX6_clears 80 = .ok (.laload, 1) := by decide +kernel
theorem dX6_clears_81 : decode cX6_clears 81 = .ok (.lmul, 1) := by decide +kernel
theorem dX6_clears_82 : decode cX6_clears 82 = .ok (.lload 6, 2) := by decide +kernel
theorem dX6_clears_84 : decode cX6_clears 84 = .ok (.aload_n 0, 1) := by decide +kernel
theorem dX6_clears_85 : decode cX6_clears 85 = .ok (.getfield 29, 3) := by decide +kernel
theorem dX6_clears_88 : decode cX6_clears 88 = .ok (.bipush 8, 2) := by decide +kernel
theorem dX6_clears_90 : decode cX6_clears 90 = .ok (.iload_n 1, 1) := by decide +kernel
theorem dX6_clears_91 : decode cX6_clears 91 = .ok (.imul, 1) := by decide +kernel
theorem dX6_clears_92 : decode cX6_clears 92 = .ok (.iload 8, 2) := by decide +kernel
theorem dX6_clears_94 : decode cX6_clears 94 = .ok (.iadd, 1) := by decide +kernel
theorem dX6_clears_95 : decode cX6_clears 95 = .ok (.laload, 1) := by decide +kernel
theorem dX6_clears_96 : decode cX6_clears 96 = .ok (.lmul, 1) := by decide +kernel
theorem dX6_clears_97 : decode cX6_clears 97 = .ok (.lsub, 1) := by decide +kernel
theorem dX6_clears_98 : decode cX6_clears 98 = .ok (.lload_n 3, 1) := by decide +kernel
theorem dX6_clears_99 : decode cX6_clears 99 = .ok (.ldiv, 1) := by decide +kernel
theorem dX6_clears_100 : decode cX6_clears 100 = .ok (.lastore, 1) := by decide +kernel
theorem dX6_clears_101 : decode cX6_clears 101 = .ok (.iinc 8 1, 3) := by decide +kernel
theorem dX6_clears_104 : decode cX6_clears 104 = .ok (.goto (-76), 3) := by decide +kernel
theorem dX6_clears_107 : decode cX6_clears 107 = .ok (.iinc 5 1, 3) := by decide +kernel
theorem dX6_clears_110 : decode cX6_clears 110 = .ok (.goto (-105), 3) := by decide +kernel
theorem dX6_clears_113 : decode cX6_clears 113 = .ok (.return_, 1) := by decide +kernel
theorem dX6_backs_0 : decode cX6_backs 0 = .ok (.iconst 0, 1) := by decide +kernel
theorem dX6_backs_1 : decode cX6_backs 1 = .ok (.istore 4, 2) := by decide +kernel
theorem dX6_backs_3 : decode cX6_backs 3 = .ok (.iload 4, 2) := by decide +kernel
theorem dX6_backs_5 : decode cX6_backs 5 = .ok (.iload_n 1, 1) := by decide +kernel
theorem dX6_backs_6 : decode cX6_backs 6 = .ok (.if_icmp .ge 35, 3) := by decide +kernel
theorem dX6_backs_9 : decode cX6_backs 9 = .ok (.aload_n 0, 1) := by decide +kernel
theorem dX6_backs_10 : decode cX6_backs 10 = .ok (.getfield 36, 3) := by decide +kernel
theorem dX6_backs_13 : decode cX6_backs 13 = .ok (.aload_n 0, 1) := by decide +kernel
theorem dX6_backs_14 : decode cX6_backs 14 = .ok (.getfield 26, 3) := by decide +kernel
theorem dX6_backs_17 : decode cX6_backs 17 = .ok (.iload 4, 2) := by decide +kernel
theorem dX6_backs_19 : decode cX6_backs 19 = .ok (.iaload, 1) := by decide +kernel
theorem dX6_backs_20 : decode cX6_backs 20 = .ok (.lload_n 2, 1) := by decide +kernel
theorem dX6_backs_21 : decode cX6_backs 21 = .ok (.lastore, 1) := by decide +kernel
theorem dX6_backs_22 : decode cX6_backs 22 = .ok (.aload_n 0, 1) := by decide +kernel
theorem dX6_backs_23 : decode cX6_backs 23 = .ok (.getfield 33, 3) := by decide +kernel
theorem dX6_backs_26 : decode cX6_backs 26 = .ok (.aload_n 0, 1) := by decide +kernel
theorem dX6_backs_27 : decode cX6_backs 27 = .ok (.getfield 26, 3) := by decide +kernel
theorem dX6_backs_30 : decode cX6_backs 30 = .ok (.iload 4, 2) := by decide +kernel
theorem dX6_backs_32 : decode cX6_backs 32 = .ok (.iaload, 1) := by decide +kernel
theorem dX6_backs_33 : decode cX6_backs 33 = .ok (.lconst 0, 1) := by decide +kernel
theorem dX6_backs_34 : decode cX6_backs 34 = .ok (.lastore, 1) := by decide +kernel
theorem dX6_backs_35 : decode cX6_backs 35 = .ok (.iinc 4 1, 3) := by decide +kernel
theorem dX6_backs_38 : decode cX6_backs 38 = .ok (.goto (-35), 3) := by decide +kernel
theorem dX6_backs_41 : decode cX6_backs 41 = .ok (.iload_n 1, 1) := by decide +kernel
theorem dX6_backs_42 : decode cX6_backs 42 = .ok (.iconst 1, 1) := by decide +kernel
theorem dX6_backs_43 : decode cX6_backs 43 = .ok (.isub, 1) := by decide +kernel
theorem dX6_backs_44 : decode cX6_backs 44 = .ok (.istore 4, 2) := by decide +kernel
theorem dX6_backs_46 : decode cX6_backs 46 = .ok (.iload 4, 2) := by decide +kernel
theorem dX6_backs_48 : decode cX6_backs 48 = .ok (.ifCond .le 100, 3) := by decide +kernel
theorem dX6_backs_51 : decode cX6_backs 51 = .ok (.aload_n 0, 1) := by decide +kernel
theorem dX6_backs_52 : decode cX6_backs 52 = .ok (.getfield 29, 3) := by decide +kernel
theorem dX6_backs_55 : decode cX6_backs 55 = .ok (.bipush 8, 2) := by decide +kernel
theorem dX6_backs_57 : decode cX6_backs 57 = .ok (.iload 4, 2) := by decide +kernel
theorem dX6_backs_59 : decode cX6_backs 59 = .ok (.imul, 1) := by decide +kernel
theorem dX6_backs_60 : decode cX6_backs 60 = .ok (.laload, 1) := by decide +kernel
theorem dX6_backs_61 : decode cX6_backs 61 = .ok (.lload_n 2, 1) := by decide +kernel
theorem dX6_backs_62 : decode cX6_backs 62 = .ok (.lmul, 1) := by decide +kernel
theorem dX6_backs_63 : decode cX6_backs 63 = .ok (.lstore 5, 2) := by decide +kernel
theorem dX6_backs_65 : decode cX6_backs 65 = .ok (.iload 4, 2) := by decide +kernel
theorem dX6_backs_67 : decode cX6_backs 67 = .ok (.iconst 1, 1) := by decide +kernel
theorem dX6_backs_68 : decode cX6_backs 68 = .ok (.iadd, 1) := by decide +kernel
theorem dX6_backs_69 : decode cX6_backs 69 = .ok (.istore 7, 2) := by decide +kernel
theorem dX6_backs_71 : decode cX6_backs 71 = .ok (.iload 7, 2) := by decide +kernel
theorem dX6_backs_73 : decode cX6_backs 73 = .ok (.iload_n 1, 1) := by decide +kernel
theorem dX6_backs_74 : decode cX6_backs 74 = .ok (.if_icmp .ge 40, 3) := by decide +kernel
theorem dX6_backs_77 : decode cX6_backs 77 = .ok (.lload 5, 2) := by decide +kernel
theorem dX6_backs_79 : decode cX6_backs 79 = .ok (.aload_n 0, 1) := by decide +kernel
theorem dX6_backs_80 : decode cX6_backs 80 = .ok (.getfield 29, 3) := by decide +kernel
theorem dX6_backs_83 : decode cX6_backs 83 = .ok (.bipush 8, 2) := by decide +kernel
theorem dX6_backs_85 : decode cX6_backs 85 = .ok (.iload 4, 2) := by decide +kernel
theorem dX6_backs_87 : decode cX6_backs 87 = .ok (.imul, 1) := by decide +kernel
theorem dX6_backs_88 : decode cX6_backs 88 = .ok (.iload 7, 2) := by decide +kernel
theorem dX6_backs_90 : decode cX6_backs 90 = .ok (.iadd, 1) := by decide +kernel
theorem dX6_backs_91 : decode cX6_backs 91 = .ok (.laload, 1) := by decide +kernel
theorem dX6_backs_92 : decode cX6_backs 92 = .ok (.aload_n 0, 1) := by decide +kernel
theorem dX6_backs_93 : decode cX6_backs 93 = .ok (.getfield 33, 3) := by decide +kernel
theorem dX6_backs_96 : decode cX6_backs 96 = .ok (.aload_n 0, 1) := by decide +kernel
theorem dX6_backs_97 : decode cX6_backs 97 = .ok (.getfield 26, 3) := by decide +kernel
theorem dX6_backs_100 : decode cX6_backs 100 = .ok (.iload 7, 2) := by decide +kernel
theorem dX6_backs_102 : decode cX6_backs 102 = .ok (.iaload, 1) := by decide +kernel
theorem dX6_backs_103 : decode cX6_backs 103 = .ok (.laload, 1) := by decide +kernel
theorem dX6_backs_104 : decode cX6_backs 104 = .ok (.lmul, 1) := by decide +kernel
theorem dX6_backs_105 : decode cX6_backs 105 = .ok (.lsub, 1) := by decide +kernel
theorem dX6_backs_106 : decode cX6_backs 106 = .ok (.lstore 5, 2) := by decide +kernel
theorem dX6_backs_108 : decode cX6_backs 108 = .ok (.iinc 7 1, 3) := by decide +kernel
theorem dX6_backs_111 : decode cX6_backs 111 = .ok (.goto (-40), 3) := by decide +kernel
theorem dX6_backs_114 : decode cX6_backs 114 = .ok (.aload_n 0, 1) := by decide +kernel
theorem dX6_backs_115 : decode cX6_backs 115 = .ok (.getfield 33, 3) := by decide +kernel
theorem dX6_backs_118 : decode cX6_backs 118 = .ok (.aload_n 0, 1) := by decide +kernel
theorem dX6_backs_119 : decode cX6_backs 119 = .ok (.getfield 26, 3) := by decide +kernel
theorem dX6_backs_122 : decode cX6_backs 122 = .ok (.iload 4, 2) := by decide +kernel
theorem dX6_backs_124 : decode cX6_backs 124 = .ok (.iaload, 1) := by decide +kernel
theorem dX6_backs_125 : decode cX6_backs 125 = .ok (.lload 5, 2) := by decide +kernel
theorem dX6_backs_127 : decode cX6_backs 127 = .ok (.aload_n 0, 1) := by decide +kernel
theorem dX6_backs_128 : decode cX6_backs 128 = .ok (.getfield 29, 3) := by decide +kernel
theorem dX6_backs_131 : decode cX6_backs 131 = .ok (.bipush 8, 2) := by decide +kernel
theorem dX6_backs_133 : decode cX6_backs 133 = .ok (.iload 4, 2) := by decide +kernel
theorem dX6_backs_135 : decode cX6_backs 135 = .ok (.imul, 1) := by decide +kernel
theorem dX6_backs_136 : decode cX6_backs 136 = .ok (.iload 4, 2) := by decide +kernel
theorem dX6_backs_138 : decode cX6_backs 138 = .ok (.iadd, 1) := by decide +kernel
theorem dX6_backs_139 : decode cX6_backs 139 = .ok (.laload, 1) := by decide +kernel
theorem dX6_backs_140 : decode cX6_backs 140 = .ok (.ldiv, 1) := by decide +kernel
theorem dX6_backs_141 : decode cX6_backs 141 = .ok (.lastore, 1) := by decide +kernel
theorem dX6_backs_142 : decode cX6_backs 142 = .ok (.iinc 4 (-1), 3) := by decide +kernel
theorem dX6_backs_145 : decode cX6_backs 145 = .ok (.goto (-99), 3) := by decide +kernel
theorem dX6_backs_148 : decode cX6_backs 148 = .ok (.return_, 1) := by decide +kernel
theorem dX6_offs_0 : decode cX6_offs 0 = .ok (.aload_n 0, 1) := by decide +kernel
theorem dX6_offs_1 : decode cX6_offs 1 = .ok (.invokevirtual 122, 3) := by decide +kernel
theorem dX6_offs_4 : decode cX6_offs 4 = .ok (.iconst 0, 1) := by decide +kernel
theorem dX6_offs_5 : decode cX6_offs 5 = .ok (.istore_n 1, 1) := by decide +kernel
theorem dX6_offs_6 : decode cX6_offs 6 = .ok (.iload_n 1, 1) := by decide +kernel
theorem dX6_offs_7 : decode cX6_offs 7 = .ok (.aload_n 0, 1) := by decide +kernel
theorem dX6_offs_8 : decode cX6_offs 8 = .ok (.getfield 40, 3) := by decide +kernel
theorem dX6_offs_11 : decode cX6_offs 11 = .ok (.if_icmp .ge 24, 3) := by decide +kernel
theorem dX6_offs_14 : decode cX6_offs 14 = .ok (.aload_n 0, 1) := by decide +kernel
theorem dX6_offs_15 : decode cX6_offs 15 = .ok (.getfield 23, 3) := by decide +kernel
theorem dX6_offs_18 : decode cX6_offs 18 = .ok (.iload_n 1, 1) := by decide +kernel
theorem dX6_offs_19 : decode cX6_offs 19 = .ok (.iaload, 1) := by decide +kernel
theorem dX6_offs_20 : decode cX6_offs 20 = .ok (.iload_n 1, 1) := by decide +kernel
theorem dX6_offs_21 : decode cX6_offs 21 = .ok (.if_icmp .ne 8, 3) := by decide +kernel
theorem dX6_offs_24 : decode cX6_offs 24 = .ok (.aload_n 0, 1) := by decide +kernel
theorem dX6_offs_25 : decode cX6_offs 25 = .ok (.iload_n 1, 1) := by decide +kernel
theorem dX6_offs_26 : decode cX6_offs 26 = .ok (.invokevirtual 137, 3) := by decide +kernel
theorem dX6_offs_29 : decode cX6_offs 29 = .ok (.iinc 1 1, 3) := by decide +kernel
theorem dX6_offs_32 : decode cX6_offs 32 = .ok (.goto (-26), 3) := by decide +kernel
theorem dX6_offs_35 : decode cX6_offs 35 = .ok (.return_, 1) := by decide +kernel
theorem dX6_offOf_0 : decode cX6_offOf 0 = .ok (.lconst 0, 1) := by decide +kernel
theorem dX6_offOf_1 : decode cX6_offOf 1 = .ok (.lstore_n 2, 1) := by decide +kernel
theorem dX6_offOf_2 : decode cX6_offOf 2 = .ok (.iconst 0, 1) := by decide +kernel
theorem dX6_offOf_3 : decode cX6_offOf 3 = .ok (.istore 4, 2) := by decide +kernel
theorem dX6_offOf_5 : decode cX6_offOf 5 = .ok (.iload 4, 2) := by decide +kernel
theorem dX6_offOf_7 : decode cX6_offOf 7 = .ok (.aload_n 0, 1) := by decide +kernel
theorem dX6_offOf_8 : decode cX6_offOf 8 = .ok (.getfield 40, 3) := by decide +kernel
theorem dX6_offOf_11 : decode cX6_offOf 11 = .ok (.if_icmp .ge 39, 3) := by decide +kernel
theorem dX6_offOf_14 : decode cX6_offOf 14 = .ok (.lload_n 2, 1) := by decide +kernel
theorem dX6_offOf_15 : decode cX6_offOf 15 = .ok (.aload_n 0, 1) := by decide +kernel
theorem dX6_offOf_16 : decode cX6_offOf 16 = .ok (.getfield 23, 3) := by decide +kernel
theorem dX6_offOf_19 : decode cX6_offOf 19 = .ok (.iload 4, 2) := by decide +kernel
theorem dX6_offOf_21 : decode cX6_offOf 21 = .ok (.iaload, 1) := by decide +kernel
theorem dX6_offOf_22 : decode cX6_offOf 22 = .ok (.aload_n 0, 1) := by decide +kernel
theorem dX6_offOf_23 : decode cX6_offOf 23 = .ok (.getfield 23, 3) := by decide +kernel
theorem dX6_offOf_26 : decode cX6_offOf 26 = .ok (.iload_n 1, 1) := by decide +kernel
theorem dX6_offOf_27 : decode cX6_offOf 27 = .ok (.iaload, 1) := by decide +kernel
theorem dX6_offOf_28 : decode cX6_offOf 28 = .ok (.if_icmp .ne 13, 3) := by decide +kernel
theorem dX6_offOf_31 : decode cX6_offOf 31 = .ok (.aload_n 0, 1) := by decide +kernel
theorem dX6_offOf_32 : decode cX6_offOf 32 = .ok (.getfield 33, 3) := by decide +kernel
theorem dX6_offOf_35 : decode cX6_offOf 35 = .ok (.iload 4, 2) := by decide +kernel
theorem dX6_offOf_37 : decode cX6_offOf 37 = .ok (.laload, 1) := by decide +kernel
theorem dX6_offOf_38 : decode cX6_offOf 38 = .ok (.goto 4, 3) := by decide +kernel
theorem dX6_offOf_41 : decode cX6_offOf 41 = .ok (.lconst 0, 1) := by decide +kernel
theorem dX6_offOf_42 : decode cX6_offOf 42 = .ok (.ladd, 1) := by decide +kernel
theorem dX6_offOf_43 : decode cX6_offOf 43 = .ok (.lstore_n 2, 1) := by decide +kernel
theorem dX6_offOf_44 : decode cX6_offOf 44 = .ok (.iinc 4 1, 3) := by decide +kernel
theorem dX6_offOf_47 : decode cX6_offOf 47 = .ok (.goto (-42), 3) := by decide +kernel
theorem dX6_offOf_50 : decode cX6_offOf 50 = .ok (.aload_n 0, 1) := by decide +kernel
theorem dX6_offOf_51 : decode cX6_offOf 51 = .ok (.aload_n 0, 1) := by decide +kernel
theorem dX6_offOf_52 : decode cX6_offOf 52 = .ok (.getfield 23, 3) := by decide +kernel
theorem dX6_offOf_55 : decode cX6_offOf 55 = .ok (.iload_n 1, 1) := by decide +kernel
theorem dX6_offOf_56 : decode cX6_offOf 56 = .ok (.iaload, 1) := by decide +kernel
theorem dX6_offOf_57 : decode cX6_offOf 57 = .ok (.invokevirtual 125, 3) := by decide +kernel
theorem dX6_offOf_60 : decode cX6_offOf 60 = .ok (.i2l, 1) := by decide +kernel
theorem dX6_offOf_61 : decode cX6_offOf 61 = .ok (.lstore 4, 2) := by decide +kernel
theorem dX6_offOf_63 : decode cX6_offOf 63 = .ok (.aload_n 0, 1) := by decide +kernel
theorem dX6_offOf_64 : decode cX6_offOf 64 = .ok (.lload 4, 2) := by decide +kernel
theorem dX6_offOf_66 : decode cX6_offOf 66 = .ok (.aload_n 0, 1) := by decide +kernel
theorem dX6_offOf_67 : decode cX6_offOf 67 = .ok (.getfield 33, 3) := by decide +kernel
theorem dX6_offOf_70 : decode cX6_offOf 70 = .ok (.iload_n 1, 1) := by decide +kernel
theorem dX6_offOf_71 : decode cX6_offOf 71 = .ok (.laload, 1) := by decide +kernel
theorem dX6_offOf_72 : decode cX6_offOf 72 = .ok (.lmul, 1) := by decide +kernel
theorem dX6_offOf_73 : decode cX6_offOf 73 = .ok (.lload_n 2, 1) := by decide +kernel
theorem dX6_offOf_74 : decode cX6_offOf 74 = .ok (.lsub, 1) := by decide +kernel
theorem dX6_offOf_75 : decode cX6_offOf 75 = .ok (.putfield 141, 3) := by decide +kernel
theorem dX6_offOf_78 : decode cX6_offOf 78 = .ok (.aload_n 0, 1) := by decide +kernel
theorem dX6_offOf_79 : decode cX6_offOf 79 = .ok (.lload 4, 2) := by decide +kernel
theorem dX6_offOf_81 : decode cX6_offOf 81 = .ok (.aload_n 0, 1) := by decide +kernel
theorem dX6_offOf_82 : decode cX6_offOf 82 = .ok (.getfield 36, 3) := by decide +kernel
theorem dX6_offOf_85 : decode cX6_offOf 85 = .ok (.iload_n 1, 1) := by decide +kernel
theorem dX6_offOf_86 : decode cX6_offOf 86 = .ok (.laload, 1) := by decide +kernel
theorem dX6_offOf_87 : decode cX6_offOf 87 = .ok (.lmul, 1) := by decide +kernel
theorem dX6_offOf_88 : decode cX6_offOf 88 = .ok (.putfield 144, 3) := by decide +kernel
theorem dX6_offOf_91 : decode cX6_offOf 91 = .ok (.return_, 1) := by decide +kernel
theorem dX6_off_0 : decode cX6_off 0 = .ok (.aload_n 0, 1) := by decide +kernel
theorem dX6_off_1 : decode cX6_off 1 = .ok (.iload_n 1, 1) := by decide +kernel
theorem dX6_off_2 : decode cX6_off 2 = .ok (.invokevirtual 58, 3) := by decide +kernel
theorem dX6_off_5 : decode cX6_off 5 = .ok (.ifCond .eq 13, 3) := by decide +kernel
theorem dX6_off_8 : decode cX6_off 8 = .ok (.iload_n 2, 1) := by decide +kernel
theorem dX6_off_9 : decode cX6_off 9 = .ok (.i2l, 1) := by decide +kernel
theorem dX6_off_10 : decode cX6_off 10 = .ok (.lconst 0, 1) := by decide +kernel
theorem dX6_off_11 : decode cX6_off 11 = .ok (.lconst 1, 1) := by decide +kernel
theorem dX6_off_12 : decode cX6_off 12 = .ok (.invokestatic 44, 3) := by decide +kernel
theorem dX6_off_15 : decode cX6_off 15 = .ok (.ifCond .ne 7, 3) := by decide +kernel
theorem dX6_off_18 : decode cX6_off 18 = .ok (.ldc2_w 147, 3) := by decide +kernel
theorem dX6_off_21 : decode cX6_off 21 = .ok (.lreturn, 1) := by decide +kernel
theorem dX6_off_22 : decode cX6_off 22 = .ok (.aload_n 0, 1) := by decide +kernel
theorem dX6_off_23 : decode cX6_off 23 = .ok (.invokevirtual 149, 3) := by decide +kernel
theorem dX6_off_26 : decode cX6_off 26 = .ok (.aload_n 0, 1) := by decide +kernel
theorem dX6_off_27 : decode cX6_off 27 = .ok (.iload_n 1, 1) := by decide +kernel
theorem dX6_off_28 : decode cX6_off 28 = .ok (.invokevirtual 152, 3) := by decide +kernel
theorem dX6_off_31 : decode cX6_off 31 = .ok (.aload_n 0, 1) := by decide +kernel
theorem dX6_off_32 : decode cX6_off 32 = .ok (.getfield 141, 3) := by decide +kernel
theorem dX6_off_35 : decode cX6_off 35 = .ok (.aload_n 0, 1) := by decide +kernel
theorem dX6_off_36 : decode cX6_off 36 = .ok (.getfield 144, 3) := by decide +kernel
theorem dX6_off_39 : decode cX6_off 39 = .ok (.iload_n 2, 1) := by decide +kernel
theorem dX6_off_40 : decode cX6_off 40 = .ok (.invokestatic 101, 3) := by decide +kernel
theorem dX6_off_43 : decode cX6_off 43 = .ok (.lreturn, 1) := by decide +kernel
theorem dX6_before_0 : decode cX6_before 0 = .ok (.lconst 0, 1) := by decide +kernel
theorem dX6_before_1 : decode cX6_before 1 = .ok (.lstore_n 1, 1) := by decide +kernel
theorem dX6_before_2 : decode cX6_before 2 = .ok (.iconst 0, 1) := by decide +kernel
theorem dX6_before_3 : decode cX6_before 3 = .ok (.istore_n 3, 1) := by decide +kernel
theorem dX6_before_4 : decode cX6_before 4 = .ok (.iload_n 3, 1) := by decide +kernel
theorem dX6_before_5 : decode cX6_before 5 = .ok (.aload_n 0, 1) := by decide +kernel
theorem dX6_before_6 : decode cX6_before 6 = .ok (.getfield 40, 3) := by decide +kernel
theorem dX6_before_9 : decode cX6_before 9 = .ok (.if_icmp .ge 55, 3) := by decide +kernel
theorem dX6_before_12 : decode cX6_before 12 = .ok (.iload_n 3, 1) := by decide +kernel
theorem dX6_before_13 : decode cX6_before 13 = .ok (.iconst 1, 1) := by decide +kernel
theorem dX6_before_14 : decode cX6_before 14 = .ok (.iadd, 1) := by decide +kernel
theorem dX6_before_15 : decode cX6_before 15 = .ok (.istore 4, 2) := by decide +kernel
theorem dX6_before_17 : decode cX6_before 17 = .ok (.iload 4, 2) := by decide +kernel
theorem dX6_before_19 : decode cX6_before 19 = .ok (.aload_n 0, 1) := by decide +kernel
theorem dX6_before_20 : decode cX6_before 20 = .ok (.getfield 40, 3) := by decide +kernel
theorem dX6_before_23 : decode cX6_before 23 = .ok (.if_icmp .ge 35, 3) := by decide +kernel
theorem dX6_before_26 : decode cX6_before 26 = .ok (.lload_n 1, 1) := by decide +kernel
theorem dX6_before_27 : decode cX6_before 27 = .ok (.aload_n 0, 1) := by decide +kernel
theorem dX6_before_28 : decode cX6_before 28 = .ok (.iload_n 3, 1) := by decide +kernel
theorem dX6_before_29 : decode cX6_before 29 = .ok (.iload 4, 2) := by decide +kernel
theorem dX6_before_31 : decode cX6_before 31 = .ok (.invokevirtual 118, 3) := by decide +kernel
theorem dX6_before_34 : decode cX6_before 34 = .ok (.ifCond .eq 15, 3) := by decide +kernel
theorem dX6_before_37 : decode cX6_before 37 = .ok (.aload_n 0, 1) := by decide +kernel
theorem dX6_before_38 : decode cX6_before 38 = .ok (.getfield 114, 3) := by decide +kernel
theorem dX6_before_41 : decode cX6_before 41 = .ok (.aload_n 0, 1) := by decide +kernel
theorem dX6_before_42 : decode cX6_before 42 = .ok (.getfield 114, 3) := by decide +kernel
theorem dX6_before_45 : decode cX6_before 45 = .ok (.lmul, 1) := by decide +kernel
theorem dX6_before_46 : decode cX6_before 46 = .ok (.goto 4, 3) := by decide +kernel
theorem dX6_before_49 : decode cX6_before 49 = .ok (.lconst 0, 1) := by decide +kernel
theorem dX6_before_50 : decode cX6_before 50 = .ok (.ladd, 1) := by decide +kernel
theorem dX6_before_51 : decode cX6_before 51 = .ok (.lstore_n 1, 1) := by decide +kernel
theorem dX6_before_52 : decode cX6_before 52 = .ok (.iinc 4 1, 3) := by decide +kernel
theorem dX6_before_55 : decode cX6_before 55 = .ok (.goto (-38), 3) := by decide +kernel
theorem dX6_before_58 : decode cX6_before 58 = .ok (.iinc 3 1, 3) := by decide +kernel
theorem dX6_before_61 : decode cX6_before 61 = .ok (.goto (-57), 3) := by decide +kernel
theorem dX6_before_64 : decode cX6_before 64 = .ok (.lload_n 1, 1) := by decide +kernel
theorem dX6_before_65 : decode cX6_before 65 = .ok (.lreturn, 1) := by decide +kernel
theorem dX6_behind_0 : decode cX6_behind 0 = .ok (.aload_n 0, 1) := by decide +kernel
theorem dX6_behind_1 : decode cX6_behind 1 = .ok (.invokevirtual 149, 3) := by decide +kernel
theorem dX6_behind_4 : decode cX6_behind 4 = .ok (.lconst 0, 1) := by decide +kernel
theorem dX6_behind_5 : decode cX6_behind 5 = .ok (.lstore_n 1, 1) := by decide +kernel
theorem dX6_behind_6 : decode cX6_behind 6 = .ok (.lconst 1, 1) := by decide +kernel
theorem dX6_behind_7 : decode cX6_behind 7 = .ok (.lstore_n 3, 1) := by decide +kernel
theorem dX6_behind_8 : decode cX6_behind 8 = .ok (.iconst 0, 1) := by decide +kernel
theorem dX6_behind_9 : decode cX6_behind 9 = .ok (.istore 5, 2) := by decide +kernel
theorem dX6_behind_11 : decode cX6_behind 11 = .ok (.iload 5, 2) := by decide +kernel
theorem dX6_behind_13 : decode cX6_behind 13 = .ok (.aload_n 0, 1) := by decide +kernel
theorem dX6_behind_14 : decode cX6_behind 14 = .ok (.getfield 40, 3) := by decide +kernel
theorem dX6_behind_17 : decode cX6_behind 17 = .ok (.if_icmp .ge 164, 3) := by decide +kernel
theorem dX6_behind_20 : decode cX6_behind 20 = .ok (.lconst 0, 1) := by decide +kernel
theorem dX6_behind_21 : decode cX6_behind 21 = .ok (.lstore 6, 2) := by decide +kernel
theorem dX6_behind_23 : decode cX6_behind 23 = .ok (.iconst 0, 1) := by decide +kernel
theorem dX6_behind_24 : decode cX6_behind 24 = .ok (.istore 8, 2) := by decide +kernel
theorem dX6_behind_26 : decode cX6_behind 26 = .ok (.iload 8, 2) := by decide +kernel
theorem dX6_behind_28 : decode cX6_behind 28 = .ok (.aload_n 0, 1) := by decide +kernel
theorem dX6_behind_29 : decode cX6_behind 29 = .ok (.getfield 40, 3) := by decide +kernel
theorem dX6_behind_32 : decode cX6_behind 32 = .ok (.if_icmp .ge 94, 3) := by decide +kernel
theorem dX6_behind_35 : decode cX6_behind 35 = .ok (.iload 8, 2) := by decide +kernel
theorem dX6_behind_37 : decode cX6_behind 37 = .ok (.iconst 1, 1) := by decide +kernel
theorem dX6_behind_38 : decode cX6_behind 38 = .ok (.iadd, 1) := by decide +kernel
theorem dX6_behind_39 : decode cX6_behind 39 = .ok (.istore 9, 2) := by decide +kernel
theorem dX6_behind_41 : decode cX6_behind 41 = .ok (.iload 9, 2) := by decide +kernel
theorem dX6_behind_43 : decode cX6_behind 43 = .ok (.aload_n 0, 1) := by decide +kernel
theorem dX6_behind_44 : decode cX6_behind 44 = .ok (.getfield 40, 3) := by decide +kernel
theorem dX6_behind_47 : decode cX6_behind 47 = .ok (.if_icmp .ge 73, 3) := by decide +kernel
theorem dX6_behind_50 : decode cX6_behind 50 = .ok (.lload 6, 2) := by decide +kernel
theorem dX6_behind_52 : decode cX6_behind 52 = .ok (.aload_n 0, 1) := by decide +kernel
theorem dX6_behind_53 : decode cX6_behind 53 = .ok (.getfield 23, 3) := by decide +kernel
theorem dX6_behind_56 : decode cX6_behind 56 = .ok (.iload 8, 2) := by decide +kernel
theorem dX6_behind_58 : decode cX6_behind 58 = .ok (.iaload, 1) := by decide +kernel
theorem dX6_behind_59 : decode cX6_behind 59 = .ok (.iload 5, 2) := by decide +kernel
theorem dX6_behind_61 : decode cX6_behind 61 = .ok (.if_icmp .ne 49, 3) := by decide +kernel
theorem dX6_behind_64 : decode cX6_behind 64 = .ok (.aload_n 0, 1) := by decide +kernel
theorem dX6_behind_65 : decode cX6_behind 65 = .ok (.getfield 23, 3) := by decide +kernel
theorem dX6_behind_68 : decode cX6_behind 68 = .ok (.iload 9, 2) := by decide +kernel
theorem dX6_behind_70 : decode cX6_behind 70 = .ok (.iaload, 1) := by decide +kernel
theorem dX6_behind_71 : decode cX6_behind 71 = .ok (.iload 5, 2) := by decide +kernel
theorem dX6_behind_73 : decode cX6_behind 73 = .ok (.if_icmp .ne 37, 3) := by decide +kernel
theorem dX6_behind_76 : decode cX6_behind 76 = .ok (.aload_n 0, 1) := by decide +kernel
theorem dX6_behind_77 : decode cX6_behind 77 = .ok (.iload 8, 2) := by decide +kernel
theorem dX6_behind_79 : decode cX6_behind 79 = .ok (.iload 9, 2) := by decide +kernel
theorem dX6_behind_81 : decode cX6_behind 81 = .ok (.invokevirtual 118, 3) := by decide +kernel
theorem dX6_behind_84 : decode cX6_behind 84 = .ok (.ifCond .eq 26, 3) := by decide +kernel
theorem dX6_behind_87 : decode cX6_behind 87 = .ok (.aload_n 0, 1) := by decide +kernel
theorem dX6_behind_88 : decode cX6_behind 88 = .ok (.getfield 114, 3) := by decide +kernel
theorem dX6_behind_91 : decode cX6_behind 91 = .ok (.aload_n 0, 1) := by decide +kernel
theorem dX6_behind_92 : decode cX6_behind 92 = .ok (.getfield 33, 3) := by decide +kernel
theorem dX6_behind_95 : decode cX6_behind 95 = .ok (.iload 8, 2) := by decide +kernel
theorem dX6_behind_97 : decode cX6_behind 97 = .ok (.laload, 1) := by decide +kernel
theorem dX6_behind_98 : decode cX6_behind 98 = .ok (.aload_n 0, 1) := by decide +kernel
theorem dX6_behind_99 : decode cX6_behind 99 = .ok (.getfield 33, 3) := by decide +kernel
theorem dX6_behind_102 : decode cX6_behind 102 = .ok (.iload 9, 2) := by decide +kernel
theorem dX6_behind_104 : decode cX6_behind 104 = .ok (.laload, 1) := by decide +kernel
theorem dX6_behind_105 : decode cX6_behind 105 = .ok (.lsub, 1) := by decide +kernel
theorem dX6_behind_106 : decode cX6_behind 106 = .ok (.lmul, 1) := by decide +kernel
theorem dX6_behind_107 : decode cX6_behind 107 = .ok (.goto 4, 3) := by decide +kernel
theorem dX6_behind_110 : decode cX6_behind 110 = .ok (.lconst 0, 1) := by decide +kernel
theorem dX6_behind_111 : decode cX6_behind 111 = .ok (.ladd, 1) := by decide +kernel
theorem dX6_behind_112 : decode cX6_behind 112 = .ok (.lstore 6, 2) := by decide +kernel
theorem dX6_behind_114 : decode cX6_behind 114 = .ok (.iinc 9 1, 3) := by decide +kernel
theorem dX6_behind_117 : decode cX6_behind 117 = .ok (.goto (-76), 3) := by decide +kernel
theorem dX6_behind_120 : decode cX6_behind 120 = .ok (.iinc 8 1, 3) := by decide +kernel
theorem dX6_behind_123 : decode cX6_behind 123 = .ok (.goto (-97), 3) := by decide +kernel
theorem dX6_behind_126 : decode cX6_behind 126 = .ok (.lload 6, 2) := by decide +kernel
theorem dX6_behind_128 : decode cX6_behind 128 = .ok (.lconst 0, 1) := by decide +kernel
theorem dX6_behind_129 : decode cX6_behind 129 = .ok (.lcmp, 1) := by decide +kernel
theorem dX6_behind_130 : decode cX6_behind 130 = .ok (.ifCond .eq 45, 3) := by decide +kernel
theorem dX6_behind_133 : decode cX6_behind 133 = .ok (.lload_n 1, 1) := by decide +kernel
theorem dX6_behind_134 : decode cX6_behind 134 = .ok (.aload_n 0, 1) := by decide +kernel
theorem dX6_behind_135 : decode cX6_behind 135 = .ok (.getfield 36, 3) := by decide +kernel
theorem dX6_behind_138 : decode cX6_behind 138 = .ok (.iload 5, 2) := by decide +kernel
theorem dX6_behind_140 : decode cX6_behind 140 = .ok (.laload, 1) := by decide +kernel
theorem dX6_behind_141 : decode cX6_behind 141 = .ok (.lmul, 1) := by decide +kernel
theorem dX6_behind_142 : decode cX6_behind 142 = .ok (.lload 6, 2) := by decide +kernel
theorem dX6_behind_144 : decode cX6_behind 144 = .ok (.lload_n 3, 1) := by decide +kernel
theorem dX6_behind_145 : decode cX6_behind 145 = .ok (.lmul, 1) := by decide +kernel
theorem dX6_behind_146 : decode cX6_behind 146 = .ok (.ladd, 1) := by decide +kernel
theorem dX6_behind_147 : decode cX6_behind 147 = .ok (.lstore_n 1, 1) := by decide +kernel
theorem dX6_behind_148 : decode cX6_behind 148 = .ok (.lload_n 3, 1) := by decide +kernel
theorem dX6_behind_149 : decode cX6_behind 149 = .ok (.aload_n 0, 1) := by decide +kernel
theorem dX6_behind_150 : decode cX6_behind 150 = .ok (.getfield 36, 3) := by decide +kernel
theorem dX6_behind_153 : decode cX6_behind 153 = .ok (.iload 5, 2) := by decide +kernel
theorem dX6_behind_155 : decode cX6_behind 155 = .ok (.laload, 1) := by decide +kernel
theorem dX6_behind_156 : decode cX6_behind 156 = .ok (.lmul, 1) := by decide +kernel
theorem dX6_behind_157 : decode cX6_behind 157 = .ok (.lstore_n 3, 1) := by decide +kernel
theorem dX6_behind_158 : decode cX6_behind 158 = .ok (.lload_n 1, 1) := by decide +kernel
theorem dX6_behind_159 : decode cX6_behind 159 = .ok (.lload_n 3, 1) := by decide +kernel
theorem dX6_behind_160 : decode cX6_behind 160 = .ok (.invokestatic 84, 3) := by decide +kernel
theorem dX6_behind_163 : decode cX6_behind 163 = .ok (.lstore 8, 2) := by decide +kernel
theorem dX6_behind_165 : decode cX6_behind 165 = .ok (.lload_n 1, 1) := by decide +kernel
theorem dX6_behind_166 : decode cX6_behind 166 = .ok (.lload 8, 2) := by decide +kernel
theorem dX6_behind_168 : decode cX6_behind 168 = .ok (.ldiv, 1) := by decide +kernel
theorem dX6_behind_169 : decode cX6_behind 169 = .ok (.lstore_n 1, 1) := by decide +kernel
theorem dX6_behind_170 : decode cX6_behind 170 = .ok (.lload_n 3, 1) := by decide +kernel
theorem dX6_behind_171 : decode cX6_behind 171 = .ok (.lload 8, 2) := by decide +kernel
theorem dX6_behind_173 : decode cX6_behind 173 = .ok (.ldiv, 1) := by decide +kernel
theorem dX6_behind_174 : decode cX6_behind 174 = .ok (.lstore_n 3, 1) := by decide +kernel
theorem dX6_behind_175 : decode cX6_behind 175 = .ok (.iinc 5 1, 3) := by decide +kernel
theorem dX6_behind_178 : decode cX6_behind 178 = .ok (.goto (-167), 3) := by decide +kernel
theorem dX6_behind_181 : decode cX6_behind 181 = .ok (.aload_n 0, 1) := by decide +kernel
theorem dX6_behind_182 : decode cX6_behind 182 = .ok (.invokevirtual 155, 3) := by decide +kernel
theorem dX6_behind_185 : decode cX6_behind 185 = .ok (.lload_n 1, 1) := by decide +kernel
theorem dX6_behind_186 : decode cX6_behind 186 = .ok (.lneg, 1) := by decide +kernel
theorem dX6_behind_187 : decode cX6_behind 187 = .ok (.lload_n 3, 1) := by decide +kernel
theorem dX6_behind_188 : decode cX6_behind 188 = .ok (.invokestatic 111, 3) := by decide +kernel
theorem dX6_behind_191 : decode cX6_behind 191 = .ok (.ladd, 1) := by decide +kernel
theorem dX6_behind_192 : decode cX6_behind 192 = .ok (.lreturn, 1) := by decide +kernel
theorem dX6_loop_0 : decode cX6_loop 0 = .ok (.aload_n 0, 1) := by decide +kernel
theorem dX6_loop_1 : decode cX6_loop 1 = .ok (.iload_n 1, 1) := by decide +kernel
theorem dX6_loop_2 : decode cX6_loop 2 = .ok (.invokevirtual 58, 3) := by decide +kernel
theorem dX6_loop_5 : decode cX6_loop 5 = .ok (.ifCond .eq 29, 3) := by decide +kernel
theorem dX6_loop_8 : decode cX6_loop 8 = .ok (.aload_n 0, 1) := by decide +kernel
theorem dX6_loop_9 : decode cX6_loop 9 = .ok (.iload_n 2, 1) := by decide +kernel
theorem dX6_loop_10 : decode cX6_loop 10 = .ok (.invokevirtual 58, 3) := by decide +kernel
theorem dX6_loop_13 : decode cX6_loop 13 = .ok (.ifCond .eq 21, 3) := by decide +kernel
theorem dX6_loop_16 : decode cX6_loop 16 = .ok (.aload_n 0, 1) := by decide +kernel
theorem dX6_loop_17 : decode cX6_loop 17 = .ok (.iload_n 3, 1) := by decide +kernel
theorem dX6_loop_18 : decode cX6_loop 18 = .ok (.invokevirtual 58, 3) := by decide +kernel
theorem dX6_loop_21 : decode cX6_loop 21 = .ok (.ifCond .eq 13, 3) := by decide +kernel
theorem dX6_loop_24 : decode cX6_loop 24 = .ok (.iload_n 1, 1) := by decide +kernel
theorem dX6_loop_25 : decode cX6_loop 25 = .ok (.iload_n 2, 1) := by decide +kernel
theorem dX6_loop_26 : decode cX6_loop 26 = .ok (.if_icmp .ge 8, 3) := by decide +kernel
theorem dX6_loop_29 : decode cX6_loop 29 = .ok (.iload_n 2, 1) := by decide +kernel
theorem dX6_loop_30 : decode cX6_loop 30 = .ok (.iload_n 3, 1) := by decide +kernel
theorem dX6_loop_31 : decode cX6_loop 31 = .ok (.if_icmp .lt 6, 3) := by decide +kernel
theorem dX6_loop_34 : decode cX6_loop 34 = .ok (.ldc 117, 2) := by decide +kernel
theorem dX6_loop_36 : decode cX6_loop 36 = .ok (.ireturn, 1) := by decide +kernel
theorem dX6_loop_37 : decode cX6_loop 37 = .ok (.aload_n 0, 1) := by decide +kernel
theorem dX6_loop_38 : decode cX6_loop 38 = .ok (.iload_n 1, 1) := by decide +kernel
theorem dX6_loop_39 : decode cX6_loop 39 = .ok (.iload_n 2, 1) := by decide +kernel
theorem dX6_loop_40 : decode cX6_loop 40 = .ok (.invokevirtual 118, 3) := by decide +kernel
theorem dX6_loop_43 : decode cX6_loop 43 = .ok (.ifCond .ne 6, 3) := by decide +kernel
theorem dX6_loop_46 : decode cX6_loop 46 = .ok (.ldc 121, 2) := by decide +kernel
theorem dX6_loop_48 : decode cX6_loop 48 = .ok (.ireturn, 1) := by decide +kernel
theorem dX6_loop_49 : decode cX6_loop 49 = .ok (.aload_n 0, 1) := by decide +kernel
theorem dX6_loop_50 : decode cX6_loop 50 = .ok (.getfield 114, 3) := by decide +kernel
theorem dX6_loop_53 : decode cX6_loop 53 = .ok (.lstore 4, 2) := by decide +kernel
theorem dX6_loop_55 : decode cX6_loop 55 = .ok (.aload_n 0, 1) := by decide +kernel
theorem dX6_loop_56 : decode cX6_loop 56 = .ok (.iload_n 2, 1) := by decide +kernel
theorem dX6_loop_57 : decode cX6_loop 57 = .ok (.iload_n 3, 1) := by decide +kernel
theorem dX6_loop_58 : decode cX6_loop 58 = .ok (.invokevirtual 118, 3) := by decide +kernel
theorem dX6_loop_61 : decode cX6_loop 61 = .ok (.ifCond .ne 6, 3) := by decide +kernel
theorem dX6_loop_64 : decode cX6_loop 64 = .ok (.ldc 121, 2) := by decide +kernel
theorem dX6_loop_66 : decode cX6_loop 66 = .ok (.ireturn, 1) := by decide +kernel
theorem dX6_loop_67 : decode cX6_loop 67 = .ok (.lload 4, 2) := by decide +kernel
theorem dX6_loop_69 : decode cX6_loop 69 = .ok (.aload_n 0, 1) := by decide +kernel
theorem dX6_loop_70 : decode cX6_loop 70 = .ok (.getfield 114, 3) := by decide +kernel
theorem dX6_loop_73 : decode cX6_loop 73 = .ok (.ladd, 1) := by decide +kernel
theorem dX6_loop_74 : decode cX6_loop 74 = .ok (.lstore 4, 2) := by decide +kernel
theorem dX6_loop_76 : decode cX6_loop 76 = .ok (.aload_n 0, 1) := by decide +kernel
theorem dX6_loop_77 : decode cX6_loop 77 = .ok (.iload_n 1, 1) := by decide +kernel
theorem dX6_loop_78 : decode cX6_loop 78 = .ok (.iload_n 3, 1) := by decide +kernel
theorem dX6_loop_79 : decode cX6_loop 79 = .ok (.invokevirtual 118, 3) := by decide +kernel
theorem dX6_loop_82 : decode cX6_loop 82 = .ok (.ifCond .eq 14, 3) := by decide +kernel
theorem dX6_loop_85 : decode cX6_loop 85 = .ok (.lload 4, 2) := by decide +kernel
theorem dX6_loop_87 : decode cX6_loop 87 = .ok (.aload_n 0, 1) := by decide +kernel
theorem dX6_loop_88 : decode cX6_loop 88 = .ok (.getfield 114, 3) := by decide +kernel
theorem dX6_loop_91 : decode cX6_loop 91 = .ok (.lsub, 1) := by decide +kernel
theorem dX6_loop_92 : decode cX6_loop 92 = .ok (.l2i, 1) := by decide +kernel
theorem dX6_loop_93 : decode cX6_loop 93 = .ok (.goto 5, 3) := by decide +kernel
theorem dX6_loop_96 : decode cX6_loop 96 = .ok (.ldc 121, 2) := by decide +kernel
theorem dX6_loop_98 : decode cX6_loop 98 = .ok (.ireturn, 1) := by decide +kernel
theorem dX6_tone_0 : decode cX6_tone 0 = .ok (.iload_n 1, 1) := by decide +kernel
theorem dX6_tone_1 : decode cX6_tone 1 = .ok (.i2l, 1) := by decide +kernel
theorem dX6_tone_2 : decode cX6_tone 2 = .ok (.lconst 1, 1) := by decide +kernel
theorem dX6_tone_3 : decode cX6_tone 3 = .ok (.ldc2_w 56, 3) := by decide +kernel
theorem dX6_tone_6 : decode cX6_tone 6 = .ok (.invokestatic 44, 3) := by decide +kernel
theorem dX6_tone_9 : decode cX6_tone 9 = .ok (.ifCond .ne 5, 3) := by decide +kernel
theorem dX6_tone_12 : decode cX6_tone 12 = .ok (.iconst (-1), 1) := by decide +kernel
theorem dX6_tone_13 : decode cX6_tone 13 = .ok (.ireturn, 1) := by decide +kernel
theorem dX6_tone_14 : decode cX6_tone 14 = .ok (.aload_n 0, 1) := by decide +kernel
theorem dX6_tone_15 : decode cX6_tone 15 = .ok (.getfield 159, 3) := by decide +kernel
theorem dX6_tone_18 : decode cX6_tone 18 = .ok (.bipush 6, 2) := by decide +kernel
theorem dX6_tone_20 : decode cX6_tone 20 = .ok (.if_icmp .ne 6, 3) := by decide +kernel
theorem dX6_tone_23 : decode cX6_tone 23 = .ok (.bipush (-3), 2) := by decide +kernel
theorem dX6_tone_25 : decode cX6_tone 25 = .ok (.ireturn, 1) := by decide +kernel
theorem dX6_tone_26 : decode cX6_tone 26 = .ok (.aload_n 0, 1) := by decide +kernel
theorem dX6_tone_27 : decode cX6_tone 27 = .ok (.getfield 20, 3) := by decide +kernel
theorem dX6_tone_30 : decode cX6_tone 30 = .ok (.aload_n 0, 1) := by decide +kernel
theorem dX6_tone_31 : decode cX6_tone 31 = .ok (.getfield 159, 3) := by decide +kernel
theorem dX6_tone_34 : decode cX6_tone 34 = .ok (.iload_n 1, 1) := by decide +kernel
theorem dX6_tone_35 : decode cX6_tone 35 = .ok (.iastore, 1) := by decide +kernel
theorem dX6_tone_36 : decode cX6_tone 36 = .ok (.aload_n 0, 1) := by decide +kernel
theorem dX6_tone_37 : decode cX6_tone 37 = .ok (.dup, 1) := by decide +kernel
theorem dX6_tone_38 : decode cX6_tone 38 = .ok (.getfield 159, 3) := by decide +kernel
theorem dX6_tone_41 : decode cX6_tone 41 = .ok (.iconst 1, 1) := by decide +kernel
theorem dX6_tone_42 : decode cX6_tone 42 = .ok (.iadd, 1) := by decide +kernel
theorem dX6_tone_43 : decode cX6_tone 43 = .ok (.putfield 159, 3) := by decide +kernel
theorem dX6_tone_46 : decode cX6_tone 46 = .ok (.aload_n 0, 1) := by decide +kernel
theorem dX6_tone_47 : decode cX6_tone 47 = .ok (.getfield 159, 3) := by decide +kernel
theorem dX6_tone_50 : decode cX6_tone 50 = .ok (.iconst 1, 1) := by decide +kernel
theorem dX6_tone_51 : decode cX6_tone 51 = .ok (.isub, 1) := by decide +kernel
theorem dX6_tone_52 : decode cX6_tone 52 = .ok (.ireturn, 1) := by decide +kernel
theorem dX6_isTone_0 : decode cX6_isTone 0 = .ok (.iload_n 1, 1) := by decide +kernel
theorem dX6_isTone_1 : decode cX6_isTone 1 = .ok (.i2l, 1) := by decide +kernel
theorem dX6_isTone_2 : decode cX6_isTone 2 = .ok (.lconst 0, 1) := by decide +kernel
theorem dX6_isTone_3 : decode cX6_isTone 3 = .ok (.aload_n 0, 1) := by decide +kernel
theorem dX6_isTone_4 : decode cX6_isTone 4 = .ok (.getfield 159, 3) := by decide +kernel
theorem dX6_isTone_7 : decode cX6_isTone 7 = .ok (.iconst 1, 1) := by decide +kernel
theorem dX6_isTone_8 : decode cX6_isTone 8 = .ok (.isub, 1) := by decide +kernel
theorem dX6_isTone_9 : decode cX6_isTone 9 = .ok (.i2l, 1) := by decide +kernel
theorem dX6_isTone_10 : decode cX6_isTone 10 = .ok (.invokestatic 44, 3) := by decide +kernel
theorem dX6_isTone_13 : decode cX6_isTone 13 = .ok (.ireturn, 1) := by decide +kernel
theorem dX6_least_0 : decode cX6_least 0 = .ok (.lload_n 2, 1) := by decide +kernel
theorem dX6_least_1 : decode cX6_least 1 = .ok (.lload_n 0, 1) := by decide +kernel
theorem dX6_least_2 : decode cX6_least 2 = .ok (.lrem, 1) := by decide +kernel
theorem dX6_least_3 : decode cX6_least 3 = .ok (.lstore 4, 2) := by decide +kernel
theorem dX6_least_5 : decode cX6_least 5 = .ok (.lload 4, 2) := by decide +kernel
theorem dX6_least_7 : decode cX6_least 7 = .ok (.lload_n 0, 1) := by decide +kernel
theorem dX6_least_8 : decode cX6_least 8 = .ok (.lload 4, 2) := by decide +kernel
theorem dX6_least_10 : decode cX6_least 10 = .ok (.lsub, 1) := by decide +kernel
theorem dX6_least_11 : decode cX6_least 11 = .ok (.lcmp, 1) := by decide +kernel
theorem dX6_least_12 : decode cX6_least 12 = .ok (.ifCond .ge 8, 3) := by decide +kernel
theorem dX6_least_15 : decode cX6_least 15 = .ok (.lload 4, 2) := by decide +kernel
theorem dX6_least_17 : decode cX6_least 17 = .ok (.goto 7, 3) := by decide +kernel
theorem dX6_least_20 : decode cX6_least 20 = .ok (.lload_n 0, 1) := by decide +kernel
theorem dX6_least_21 : decode cX6_least 21 = .ok (.lload 4, 2) := by decide +kernel
theorem dX6_least_23 : decode cX6_least 23 = .ok (.lsub, 1) := by decide +kernel
theorem dX6_least_24 : decode cX6_least 24 = .ok (.lreturn, 1) := by decide +kernel
theorem dX6_seen_0 : decode cX6_seen 0 = .ok (.aload_n 0, 1) := by decide +kernel
theorem dX6_seen_1 : decode cX6_seen 1 = .ok (.iload_n 1, 1) := by decide +kernel
theorem dX6_seen_2 : decode cX6_seen 2 = .ok (.invokevirtual 162, 3) := by decide +kernel
theorem dX6_seen_5 : decode cX6_seen 5 = .ok (.ifCond .eq 25, 3) := by decide +kernel
theorem dX6_seen_8 : decode cX6_seen 8 = .ok (.iload_n 2, 1) := by decide +kernel
theorem dX6_seen_9 : decode cX6_seen 9 = .ok (.i2l, 1) := by decide +kernel
theorem dX6_seen_10 : decode cX6_seen 10 = .ok (.lconst 1, 1) := by decide +kernel
theorem dX6_seen_11 : decode cX6_seen 11 = .ok (.ldc2_w 56, 3) := by decide +kernel
theorem dX6_seen_14 : decode cX6_seen 14 = .ok (.invokestatic 44, 3) := by decide +kernel
theorem dX6_seen_17 : decode cX6_seen 17 = .ok (.ifCond .eq 13, 3) := by decide +kernel
theorem dX6_seen_20 : decode cX6_seen 20 = .ok (.iload_n 3, 1) := by decide +kernel
theorem dX6_seen_21 : decode cX6_seen 21 = .ok (.i2l, 1) := by decide +kernel
theorem dX6_seen_22 : decode cX6_seen 22 = .ok (.lconst 0, 1) := by decide +kernel
theorem dX6_seen_23 : decode cX6_seen 23 = .ok (.lconst 1, 1) := by decide +kernel
theorem dX6_seen_24 : decode cX6_seen 24 = .ok (.invokestatic 44, 3) := by decide +kernel
theorem dX6_seen_27 : decode cX6_seen 27 = .ok (.ifCond .ne 7, 3) := by decide +kernel
theorem dX6_seen_30 : decode cX6_seen 30 = .ok (.ldc2_w 165, 3) := by decide +kernel
theorem dX6_seen_33 : decode cX6_seen 33 = .ok (.lreturn, 1) := by decide +kernel
theorem dX6_seen_34 : decode cX6_seen 34 = .ok (.aload_n 0, 1) := by decide +kernel
theorem dX6_seen_35 : decode cX6_seen 35 = .ok (.getfield 20, 3) := by decide +kernel
theorem dX6_seen_38 : decode cX6_seen 38 = .ok (.iload_n 1, 1) := by decide +kernel
theorem dX6_seen_39 : decode cX6_seen 39 = .ok (.iaload, 1) := by decide +kernel
theorem dX6_seen_40 : decode cX6_seen 40 = .ok (.i2l, 1) := by decide +kernel
theorem dX6_seen_41 : decode cX6_seen 41 = .ok (.iload_n 2, 1) := by decide +kernel
theorem dX6_seen_42 : decode cX6_seen 42 = .ok (.i2l, 1) := by decide +kernel
theorem dX6_seen_43 : decode cX6_seen 43 = .ok (.invokestatic 167, 3) := by decide +kernel
theorem dX6_seen_46 : decode cX6_seen 46 = .ok (.lstore 4, 2) := by decide +kernel
theorem dX6_seen_48 : decode cX6_seen 48 = .ok (.lload 4, 2) := by decide +kernel
theorem dX6_seen_50 : decode cX6_seen 50 = .ok (.lconst 0, 1) := by decide +kernel
theorem dX6_seen_51 : decode cX6_seen 51 = .ok (.lcmp, 1) := by decide +kernel
theorem dX6_seen_52 : decode cX6_seen 52 = .ok (.ifCond .ne 9, 3) := by decide +kernel
theorem dX6_seen_55 : decode cX6_seen 55 = .ok (.ldc2_w 170, 3) := by decide +kernel
theorem dX6_seen_58 : decode cX6_seen 58 = .ok (.goto 23, 3) := by decide +kernel
theorem dX6_seen_61 : decode cX6_seen 61 = .ok (.aload_n 0, 1) := by decide +kernel
theorem dX6_seen_62 : decode cX6_seen 62 = .ok (.getfield 20, 3) := by decide +kernel
theorem dX6_seen_65 : decode cX6_seen 65 = .ok (.iload_n 1, 1) := by decide +kernel
theorem dX6_seen_66 : decode cX6_seen 66 = .ok (.iaload, 1) := by decide +kernel
theorem dX6_seen_67 : decode cX6_seen 67 = .ok (.i2l, 1) := by decide +kernel
theorem dX6_seen_68 : decode cX6_seen 68 = .ok (.iload_n 2, 1) := by decide +kernel
theorem dX6_seen_69 : decode cX6_seen 69 = .ok (.i2l, 1) := by decide +kernel
theorem dX6_seen_70 : decode cX6_seen 70 = .ok (.lmul, 1) := by decide +kernel
theorem dX6_seen_71 : decode cX6_seen 71 = .ok (.ldc2_w 172, 3) := by decide +kernel
theorem dX6_seen_74 : decode cX6_seen 74 = .ok (.lload 4, 2) := by decide +kernel
theorem dX6_seen_76 : decode cX6_seen 76 = .ok (.lmul, 1) := by decide +kernel
theorem dX6_seen_77 : decode cX6_seen 77 = .ok (.iload_n 3, 1) := by decide +kernel
theorem dX6_seen_78 : decode cX6_seen 78 = .ok (.invokestatic 101, 3) := by decide +kernel
theorem dX6_seen_81 : decode cX6_seen 81 = .ok (.lreturn, 1) := by decide +kernel
theorem dX6_apart_0 : decode cX6_apart 0 = .ok (.aload_n 0, 1) := by decide +kernel
theorem dX6_apart_1 : decode cX6_apart 1 = .ok (.iload_n 1, 1) := by decide +kernel
theorem dX6_apart_2 : decode cX6_apart 2 = .ok (.invokevirtual 162, 3) := by decide +kernel
theorem dX6_apart_5 : decode cX6_apart 5 = .ok (.ifCond .eq 41, 3) := by decide +kernel
theorem dX6_apart_8 : decode cX6_apart 8 = .ok (.aload_n 0, 1) := by decide +kernel
theorem dX6_apart_9 : decode cX6_apart 9 = .ok (.iload_n 2, 1) := by decide +kernel
theorem dX6_apart_10 : decode cX6_apart 10 = .ok (.invokevirtual 162, 3) := by decide +kernel
theorem dX6_apart_13 : decode cX6_apart 13 = .ok (.ifCond .eq 33, 3) := by decide +kernel
theorem dX6_apart_16 : decode cX6_apart 16 = .ok (.iload_n 1, 1) := by decide +kernel
theorem dX6_apart_17 : decode cX6_apart 17 = .ok (.iload_n 2, 1) := by decide +kernel
theorem dX6_apart_18 : decode cX6_apart 18 = .ok (.if_icmp .eq 28, 3) := by decide +kernel
theorem dX6_apart_21 : decode cX6_apart 21 = .ok (.iload_n 3, 1) := by decide +kernel
theorem dX6_apart_22 : decode cX6_apart 22 = .ok (.i2l, 1) := by decide +kernel
theorem dX6_apart_23 : decode cX6_apart 23 = .ok (.lconst 1, 1) := by decide +kernel
theorem dX6_apart_24 : decode cX6_apart 24 = .ok (.ldc2_w 56, 3) := by decide +kernel
theorem dX6_apart_27 : decode cX6_apart 27 = .ok (.invokestatic 44, 3) := by decide +kernel
theorem dX6_apart_30 : decode cX6_apart 30 = .ok (.ifCond .eq 16, 3) := by decide +kernel
theorem dX6_apart_33 : decode cX6_apart 33 = .ok (.iload 4, 2) := by decide +kernel
theorem dX6_apart_35 : decode cX6_apart 35 = .ok (.i2l, 1) := by decide +kernel
theorem dX6_apart_36 : decode cX6_apart 36 = .ok (.lconst 1, 1) := by decide +kernel
theorem dX6_apart_37 : decode cX6_apart 37 = .ok (.ldc2_w 174, 3) := by decide +kernel
theorem dX6_apart_40 : decode cX6_apart 40 = .ok (.invokestatic 44, 3) := by decide +kernel
theorem dX6_apart_43 : decode cX6_apart 43 = .ok (.ifCond .ne 5, 3) := by decide +kernel
theorem dX6_apart_46 : decode cX6_apart 46 = .ok (.iconst (-1), 1) := by decide +kernel
theorem dX6_apart_47 : decode cX6_apart 47 = .ok (.ireturn, 1) := by decide +kernel
theorem dX6_apart_48 : decode cX6_apart 48 = .ok (.aload_n 0, 1) := by decide +kernel
theorem dX6_apart_49 : decode cX6_apart 49 = .ok (.getfield 20, 3) := by decide +kernel
theorem dX6_apart_52 : decode cX6_apart 52 = .ok (.iload_n 1, 1) := by decide +kernel
theorem dX6_apart_53 : decode cX6_apart 53 = .ok (.iaload, 1) := by decide +kernel
theorem dX6_apart_54 : decode cX6_apart 54 = .ok (.i2l, 1) := by decide +kernel
theorem dX6_apart_55 : decode cX6_apart 55 = .ok (.iload_n 3, 1) := by decide +kernel
theorem dX6_apart_56 : decode cX6_apart 56 = .ok (.i2l, 1) := by decide +kernel
theorem dX6_apart_57 : decode cX6_apart 57 = .ok (.invokestatic 167, 3) := by decide +kernel
theorem dX6_apart_60 : decode cX6_apart 60 = .ok (.aload_n 0, 1) := by decide +kernel
theorem dX6_apart_61 : decode cX6_apart 61 = .ok (.getfield 20, 3) := by decide +kernel
theorem dX6_apart_64 : decode cX6_apart 64 = .ok (.iload_n 2, 1) := by decide +kernel
theorem dX6_apart_65 : decode cX6_apart 65 = .ok (.iaload, 1) := by decide +kernel
theorem dX6_apart_66 : decode cX6_apart 66 = .ok (.i2l, 1) := by decide +kernel
theorem dX6_apart_67 : decode cX6_apart 67 = .ok (.lmul, 1) := by decide +kernel
theorem dX6_apart_68 : decode cX6_apart 68 = .ok (.aload_n 0, 1) := by decide +kernel
theorem dX6_apart_69 : decode cX6_apart 69 = .ok (.getfield 20, 3) := by decide +kernel
theorem dX6_apart_72 : decode cX6_apart 72 = .ok (.iload_n 2, 1) := by decide +kernel
theorem dX6_apart_73 : decode cX6_apart 73 = .ok (.iaload, 1) := by decide +kernel
theorem dX6_apart_74 : decode cX6_apart 74 = .ok (.i2l, 1) := by decide +kernel
theorem dX6_apart_75 : decode cX6_apart 75 = .ok (.iload_n 3, 1) := by decide +kernel
theorem dX6_apart_76 : decode cX6_apart 76 = .ok (.i2l, 1) := by decide +kernel
theorem dX6_apart_77 : decode cX6_apart 77 = .ok (.invokestatic 167, 3) := by decide +kernel
theorem dX6_apart_80 : decode cX6_apart 80 = .ok (.aload_n 0, 1) := by decide +kernel
theorem dX6_apart_81 : decode cX6_apart 81 = .ok (.getfield 20, 3) := by decide +kernel
theorem dX6_apart_84 : decode cX6_apart 84 = .ok (.iload_n 1, 1) := by decide +kernel
theorem dX6_apart_85 : decode cX6_apart 85 = .ok (.iaload, 1) := by decide +kernel
theorem dX6_apart_86 : decode cX6_apart 86 = .ok (.i2l, 1) := by decide +kernel
theorem dX6_apart_87 : decode cX6_apart 87 = .ok (.lmul, 1) := by decide +kernel
theorem dX6_apart_88 : decode cX6_apart 88 = .ok (.lsub, 1) := by decide +kernel
theorem dX6_apart_89 : decode cX6_apart 89 = .ok (.lstore 5, 2) := by decide +kernel
theorem dX6_apart_91 : decode cX6_apart 91 = .ok (.lload 5, 2) := by decide +kernel
theorem dX6_apart_93 : decode cX6_apart 93 = .ok (.lconst 0, 1) := by decide +kernel
theorem dX6_apart_94 : decode cX6_apart 94 = .ok (.lcmp, 1) := by decide +kernel
theorem dX6_apart_95 : decode cX6_apart 95 = .ok (.ifCond .ge 9, 3) := by decide +kernel
theorem dX6_apart_98 : decode cX6_apart 98 = .ok (.lload 5, 2) := by decide +kernel
theorem dX6_apart_100 : decode cX6_apart 100 = .ok (.lneg, 1) := by decide +kernel
theorem dX6_apart_101 : decode cX6_apart 101 = .ok (.goto 5, 3) := by decide +kernel
theorem dX6_apart_104 : decode cX6_apart 104 = .ok (.lload 5, 2) := by decide +kernel
theorem dX6_apart_106 : decode cX6_apart 106 = .ok (.lstore 5, 2) := by decide +kernel
theorem dX6_apart_108 : decode cX6_apart 108 = .ok (.iload_n 3, 1) := by decide +kernel
theorem dX6_apart_109 : decode cX6_apart 109 = .ok (.i2l, 1) := by decide +kernel
theorem dX6_apart_110 : decode cX6_apart 110 = .ok (.aload_n 0, 1) := by decide +kernel
theorem dX6_apart_111 : decode cX6_apart 111 = .ok (.getfield 20, 3) := by decide +kernel
theorem dX6_apart_114 : decode cX6_apart 114 = .ok (.iload_n 1, 1) := by decide +kernel
theorem dX6_apart_115 : decode cX6_apart 115 = .ok (.iaload, 1) := by decide +kernel
theorem dX6_apart_116 : decode cX6_apart 116 = .ok (.i2l, 1) := by decide +kernel
theorem dX6_apart_117 : decode cX6_apart 117 = .ok (.lmul, 1) := by decide +kernel
theorem dX6_apart_118 : decode cX6_apart 118 = .ok (.aload_n 0, 1) := by decide +kernel
theorem dX6_apart_119 : decode cX6_apart 119 = .ok (.getfield 20, 3) := by decide +kernel
theorem dX6_apart_122 : decode cX6_apart 122 = .ok (.iload_n 2, 1) := by decide +kernel
theorem dX6_apart_123 : decode cX6_apart 123 = .ok (.iaload, 1) := by decide +kernel
theorem dX6_apart_124 : decode cX6_apart 124 = .ok (.i2l, 1) := by decide +kernel
theorem dX6_apart_125 : decode cX6_apart 125 = .ok (.lmul, 1) := by decide +kernel
theorem dX6_apart_126 : decode cX6_apart 126 = .ok (.lstore 7, 2) := by decide +kernel
theorem dX6_apart_128 : decode cX6_apart 128 = .ok (.ldc2_w 172, 3) := by decide +kernel
theorem dX6_apart_131 : decode cX6_apart 131 = .ok (.iload 4, 2) := by decide +kernel
theorem dX6_apart_133 : decode cX6_apart 133 = .ok (.i2l, 1) := by decide +kernel
theorem dX6_apart_134 : decode cX6_apart 134 = .ok (.lmul, 1) := by decide +kernel
theorem dX6_apart_135 : decode cX6_apart 135 = .ok (.lstore 9, 2) := by decide +kernel
theorem dX6_apart_137 : decode cX6_apart 137 = .ok (.lload 5, 2) := by decide +kernel
theorem dX6_apart_139 : decode cX6_apart 139 = .ok (.lload 7, 2) := by decide +kernel
theorem dX6_apart_141 : decode cX6_apart 141 = .ok (.lload 9, 2) := by decide +kernel
theorem dX6_apart_143 : decode cX6_apart 143 = .ok (.ladd, 1) := by decide +kernel
theorem dX6_apart_144 : decode cX6_apart 144 = .ok (.lconst 1, 1) := by decide +kernel
theorem dX6_apart_145 : decode cX6_apart 145 = .ok (.lsub, 1) := by decide +kernel
theorem dX6_apart_146 : decode cX6_apart 146 = .ok (.lload 9, 2) := by decide +kernel
theorem dX6_apart_148 : decode cX6_apart 148 = .ok (.ldiv, 1) := by decide +kernel
theorem dX6_apart_149 : decode cX6_apart 149 = .ok (.lcmp, 1) := by decide +kernel
theorem dX6_apart_150 : decode cX6_apart 150 = .ok (.ifCond .lt 7, 3) := by decide +kernel
theorem dX6_apart_153 : decode cX6_apart 153 = .ok (.iconst 1, 1) := by decide +kernel
theorem dX6_apart_154 : decode cX6_apart 154 = .ok (.goto 4, 3) := by decide +kernel
theorem dX6_apart_157 : decode cX6_apart 157 = .ok (.iconst 0, 1) := by decide +kernel
theorem dX6_apart_158 : decode cX6_apart 158 = .ok (.ireturn, 1) := by decide +kernel
theorem dX6_box_0 : decode cX6_box 0 = .ok (.iload_n 1, 1) := by decide +kernel
theorem dX6_box_1 : decode cX6_box 1 = .ok (.i2l, 1) := by decide +kernel
theorem dX6_box_2 : decode cX6_box 2 = .ok (.lconst 1, 1) := by decide +kernel
theorem dX6_box_3 : decode cX6_box 3 = .ok (.ldc2_w 176, 3) := by decide +kernel
theorem dX6_box_6 : decode cX6_box 6 = .ok (.invokestatic 44, 3) := by decide +kernel
theorem dX6_box_9 : decode cX6_box 9 = .ok (.ifCond .eq 42, 3) := by decide +kernel
theorem dX6_box_12 : decode cX6_box 12 = .ok (.iload_n 2, 1) := by decide +kernel
theorem dX6_box_13 : decode cX6_box 13 = .ok (.i2l, 1) := by decide +kernel
theorem dX6_box_14 : decode cX6_box 14 = .ok (.ldc2_w 48, 3) := by decide +kernel
theorem dX6_box_17 : decode cX6_box 17 = .ok (.ldc2_w 50, 3) := by decide +kernel
theorem dX6_box_20 : decode cX6_box 20 = .ok (.invokestatic 44, 3) := by decide +kernel
theorem dX6_box_23 : decode cX6_box 23 = .ok (.ifCond .eq 28, 3) := by decide +kernel
theorem dX6_box_26 : decode cX6_box 26 = .ok (.iload_n 3, 1) := by decide +kernel
theorem dX6_box_27 : decode cX6_box 27 = .ok (.i2l, 1) := by decide +kernel
theorem dX6_box_28 : decode cX6_box 28 = .ok (.ldc2_w 48, 3) := by decide +kernel
theorem dX6_box_31 : decode cX6_box 31 = .ok (.ldc2_w 50, 3) := by decide +kernel
theorem dX6_box_34 : decode cX6_box 34 = .ok (.invokestatic 44, 3) := by decide +kernel
theorem dX6_box_37 : decode cX6_box 37 = .ok (.ifCond .eq 14, 3) := by decide +kernel
theorem dX6_box_40 : decode cX6_box 40 = .ok (.iload 4, 2) := by decide +kernel
theorem dX6_box_42 : decode cX6_box 42 = .ok (.i2l, 1) := by decide +kernel
theorem dX6_box_43 : decode cX6_box 43 = .ok (.lconst 0, 1) := by decide +kernel
theorem dX6_box_44 : decode cX6_box 44 = .ok (.lconst 1, 1) := by decide +kernel
theorem dX6_box_45 : decode cX6_box 45 = .ok (.invokestatic 44, 3) := by decide +kernel
theorem dX6_box_48 : decode cX6_box 48 = .ok (.ifCond .ne 7, 3) := by decide +kernel
theorem dX6_box_51 : decode cX6_box 51 = .ok (.ldc2_w 147, 3) := by decide +kernel
theorem dX6_box_54 : decode cX6_box 54 = .ok (.lreturn, 1) := by decide +kernel
theorem dX6_box_55 : decode cX6_box 55 = .ok (.aload_n 0, 1) := by decide +kernel
theorem dX6_box_56 : decode cX6_box 56 = .ok (.invokevirtual 149, 3) := by decide +kernel
theorem dX6_box_59 : decode cX6_box 59 = .ok (.lconst 0, 1) := by decide +kernel
theorem dX6_box_60 : decode cX6_box 60 = .ok (.lstore 5, 2) := by decide +kernel
theorem dX6_box_62 : decode cX6_box 62 = .ok (.lconst 0, 1) := by decide +kernel
theorem dX6_box_63 : decode cX6_box 63 = .ok (.lstore 7, 2) := by decide +kernel
theorem dX6_box_65 : decode cX6_box 65 = .ok (.iconst 0, 1) := by decide +kernel
theorem dX6_box_66 : decode cX6_box 66 = .ok (.istore 9, 2) := by decide +kernel
theorem dX6_box_68 : decode cX6_box 68 = .ok (.iload 9, 2) := by decide +kernel
theorem dX6_box_70 : decode cX6_box 70 = .ok (.aload_n 0, 1) := by decide +kernel
theorem dX6_box_71 : decode cX6_box 71 = .ok (.getfield 40, 3) := by decide +kernel
theorem dX6_box_74 : decode cX6_box 74 = .ok (.if_icmp .ge 230, 3) := by decide +kernel
theorem dX6_box_77 : decode cX6_box 77 = .ok (.aload_n 0, 1) := by decide +kernel
theorem dX6_box_78 : decode cX6_box 78 = .ok (.iload 9, 2) := by decide +kernel
theorem dX6_box_80 : decode cX6_box 80 = .ok (.invokevirtual 152, 3) := by decide +kernel
theorem dX6_box_83 : decode cX6_box 83 = .ok (.iconst 0, 1) := by decide +kernel
theorem dX6_box_84 : decode cX6_box 84 = .ok (.istore 10, 2) := by decide +kernel
theorem dX6_box_86 : decode cX6_box 86 = .ok (.iload 10, 2) := by decide +kernel
theorem dX6_box_88 : decode cX6_box 88 = .ok (.bipush 9, 2) := by decide +kernel
theorem dX6_box_90 : decode cX6_box 90 = .ok (.if_icmp .ge 208, 3) := by decide +kernel
theorem dX6_box_93 : decode cX6_box 93 = .ok (.aload_n 0, 1) := by decide +kernel
theorem dX6_box_94 : decode cX6_box 94 = .ok (.getfield 16, 3) := by decide +kernel
theorem dX6_box_97 : decode cX6_box 97 = .ok (.iload 9, 2) := by decide +kernel
theorem dX6_box_99 : decode cX6_box 99 = .ok (.baload, 1) := by decide +kernel
theorem dX6_box_100 : decode cX6_box 100 = .ok (.ifCond .ne 198, 3) := by decide +kernel
theorem dX6_box_103 : decode cX6_box 103 = .ok (.ldc2_w 62, 3) := by decide +kernel
theorem dX6_box_106 : decode cX6_box 106 = .ok (.aload_n 0, 1) := by decide +kernel
theorem dX6_box_107 : decode cX6_box 107 = .ok (.getfield 7, 3) := by decide +kernel
theorem dX6_box_110 : decode cX6_box 110 = .ok (.bipush 6, 2) := by decide +kernel
theorem dX6_box_112 : decode cX6_box 112 = .ok (.iload 9, 2) := by decide +kernel
theorem dX6_box_114 : decode cX6_box 114 = .ok (.imul, 1) := by decide +kernel
theorem dX6_box_115 : decode cX6_box 115 = .ok (.iaload, 1) := by decide +kernel
theorem dX6_box_116 : decode cX6_box 116 = .ok (.i2l, 1) := by decide +kernel
theorem dX6_box_117 : decode cX6_box 117 = .ok (.lmul, 1) := by decide +kernel
theorem dX6_box_118 : decode cX6_box 118 = .ok (.iload 10, 2) := by decide +kernel
theorem dX6_box_120 : decode cX6_box 120 = .ok (.i2l, 1) := by decide +kernel
theorem dX6_box_121 : decode cX6_box 121 = .ok (.aload_n 0, 1) := by decide +kernel
theorem dX6_box_122 : decode cX6_box 122 = .ok (.getfield 7, 3) := by decide +kernel
theorem dX6_box_125 : decode cX6_box 125 = .ok (.bipush 6, 2) := by decide +kernel
theorem dX6_box_127 : decode cX6_box 127 = .ok (.iload 9, 2) := by decide +kernel
theorem dX6_box_129 : decode cX6_box 129 = .ok (.imul, 1) := by decide +kernel
theorem dX6_box_130 : decode cX6_box 130 = .ok (.iconst 2, 1) := by decide +kernel
theorem dX6_box_131 : decode cX6_box 131 = .ok (.iadd, 1) := by decide +kernel
theorem dX6_box_132 : decode cX6_box 132 = .ok (.iaload, 1) := by decide +kernel
theorem dX6_box_133 : decode cX6_box 133 = .ok (.aload_n 0, 1) := by decide +kernel
theorem dX6_box_134 : decode cX6_box 134 = .ok (.getfield 7, 3) := by decide +kernel
theorem dX6_box_137 : decode cX6_box 137 = .ok (.bipush 6, 2) := by decide +kernel
theorem dX6_box_139 : decode cX6_box 139 = .ok (.iload 9, 2) := by decide +kernel
theorem dX6_box_141 : decode cX6_box 141 = .ok (.imul, 1) := by decide +kernel
theorem dX6_box_142 : decode cX6_box 142 = .ok (.iaload, 1) := by decide +kernel
theorem dX6_box_143 : decode cX6_box 143 = .ok (.isub, 1) := by decide +kernel
theorem dX6_box_144 : decode cX6_box 144 = .ok (.i2l, 1) := by decide +kernel
theorem dX6_box_145 : decode cX6_box 145 = .ok (.lmul, 1) := by decide +kernel
theorem dX6_box_146 : decode cX6_box 146 = .ok (.ladd, 1) := by decide +kernel
theorem dX6_box_147 : decode cX6_box 147 = .ok (.lstore 11, 2) := by decide +kernel
theorem dX6_box_149 : decode cX6_box 149 = .ok (.ldc2_w 62, 3) := by decide +kernel
theorem dX6_box_152 : decode cX6_box 152 = .ok (.aload_n 0, 1) := by decide +kernel
theorem dX6_box_153 : decode cX6_box 153 = .ok (.getfield 7, 3) := by decide +kernel
theorem dX6_box_156 : decode cX6_box 156 = .ok (.bipush 6, 2) := by decide +kernel
theorem dX6_box_158 : decode cX6_box 158 = .ok (.iload 9, 2) := by decide +kernel
theorem dX6_box_160 : decode cX6_box 160 = .ok (.imul, 1) := by decide +kernel
theorem dX6_box_161 : decode cX6_box 161 = .ok (.iconst 1, 1) := by decide +kernel
theorem dX6_box_162 : decode cX6_box 162 = .ok (.iadd, 1) := by decide +kernel
theorem dX6_box_163 : decode cX6_box 163 = .ok (.iaload, 1) := by decide +kernel
theorem dX6_box_164 : decode cX6_box 164 = .ok (.i2l, 1) := by decide +kernel
theorem dX6_box_165 : decode cX6_box 165 = .ok (.lmul, 1) := by decide +kernel
theorem dX6_box_166 : decode cX6_box 166 = .ok (.iload 10, 2) := by decide +kernel
theorem dX6_box_168 : decode cX6_box 168 = .ok (.i2l, 1) := by decide +kernel
theorem dX6_box_169 : decode cX6_box 169 = .ok (.aload_n 0, 1) := by decide +kernel
theorem dX6_box_170 : decode cX6_box 170 = .ok (.getfield 7, 3) := by decide +kernel
theorem dX6_box_173 : decode cX6_box 173 = .ok (.bipush 6, 2) := by decide +kernel
theorem dX6_box_175 : decode cX6_box 175 = .ok (.iload 9, 2) := by decide +kernel
theorem dX6_box_177 : decode cX6_box 177 = .ok (.imul, 1) := by decide +kernel
theorem dX6_box_178 : decode cX6_box 178 = .ok (.iconst 3, 1) := by decide +kernel
theorem dX6_box_179 : decode cX6_box 179 = .ok (.iadd, 1) := by decide +kernel
theorem dX6_box_180 : decode cX6_box 180 = .ok (.iaload, 1) := by decide +kernel
theorem dX6_box_181 : decode cX6_box 181 = .ok (.aload_n 0, 1) := by decide +kernel
theorem dX6_box_182 : decode cX6_box 182 = .ok (.getfield 7, 3) := by decide +kernel
theorem dX6_box_185 : decode cX6_box 185 = .ok (.bipush 6, 2) := by decide +kernel
theorem dX6_box_187 : decode cX6_box 187 = .ok (.iload 9, 2) := by decide +kernel
theorem dX6_box_189 : decode cX6_box 189 = .ok (.imul, 1) := by decide +kernel
theorem dX6_box_190 : decode cX6_box 190 = .ok (.iconst 1, 1) := by decide +kernel
theorem dX6_box_191 : decode cX6_box 191 = .ok (.iadd, 1) := by decide +kernel
theorem dX6_box_192 : decode cX6_box 192 = .ok (.iaload, 1) := by decide +kernel
theorem dX6_box_193 : decode cX6_box 193 = .ok (.isub, 1) := by decide +kernel
theorem dX6_box_194 : decode cX6_box 194 = .ok (.i2l, 1) := by decide +kernel
theorem dX6_box_195 : decode cX6_box 195 = .ok (.lmul, 1) := by decide +kernel
theorem dX6_box_196 : decode cX6_box 196 = .ok (.ladd, 1) := by decide +kernel
theorem dX6_box_197 : decode cX6_box 197 = .ok (.lstore 13, 2) := by decide +kernel
theorem dX6_box_199 : decode cX6_box 199 = .ok (.aload_n 0, 1) := by decide +kernel
theorem dX6_box_200 : decode cX6_box 200 = .ok (.getfield 13, 3) := by decide +kernel
theorem dX6_box_203 : decode cX6_box 203 = .ok (.bipush 9, 2) := by decide +kernel
theorem dX6_box_205 : decode cX6_box 205 = .ok (.iload 9, 2) := by decide +kernel
theorem dX6_box_207 : decode cX6_box 207 = .ok (.imul, 1) := by decide +kernel
theorem dX6_box_208 : decode cX6_box 208 = .ok (.iload 10, 2) := by decide +kernel
theorem dX6_box_210 : decode cX6_box 210 = .ok (.iadd, 1) := by decide +kernel
theorem dX6_box_211 : decode cX6_box 211 = .ok (.iaload, 1) := by decide +kernel
theorem dX6_box_212 : decode cX6_box 212 = .ok (.ldc 39, 2) := by decide +kernel
theorem dX6_box_214 : decode cX6_box 214 = .ok (.if_icmp .eq 78, 3) := by decide +kernel
theorem dX6_box_217 : decode cX6_box 217 = .ok (.lload 11, 2) := by decide +kernel
theorem dX6_box_219 : decode cX6_box 219 = .ok (.ldc2_w 62, 3) := by decide +kernel
theorem dX6_box_222 : decode cX6_box 222 = .ok (.iload_n 1, 1) := by decide +kernel
theorem dX6_box_223 : decode cX6_box 223 = .ok (.i2l, 1) := by decide +kernel
theorem dX6_box_224 : decode cX6_box 224 = .ok (.lmul, 1) := by decide +kernel
theorem dX6_box_225 : decode cX6_box 225 = .ok (.invokestatic 111, 3) := by decide +kernel
theorem dX6_box_228 : decode cX6_box 228 = .ok (.iload_n 2, 1) := by decide +kernel
theorem dX6_box_229 : decode cX6_box 229 = .ok (.i2l, 1) := by decide +kernel
theorem dX6_box_230 : decode cX6_box 230 = .ok (.lcmp, 1) := by decide +kernel
theorem dX6_box_231 : decode cX6_box 231 = .ok (.ifCond .ne 61, 3) := by decide +kernel
theorem dX6_box_234 : decode cX6_box 234 = .ok (.lload 13, 2) := by decide +kernel
theorem dX6_box_236 : decode cX6_box 236 = .ok (.ldc2_w 62, 3) := by decide +kernel
theorem dX6_box_239 : decode cX6_box 239 = .ok (.iload_n 1, 1) := by decide +kernel
theorem dX6_box_240 : decode cX6_box 240 = .ok (.i2l, 1) := by decide +kernel
theorem dX6_box_241 : decode cX6_box 241 = .ok (.lmul, 1) := by decide +kernel
theorem dX6_box_242 : decode cX6_box 242 = .ok (.invokestatic 111, 3) := by decide +kernel
theorem dX6_box_245 : decode cX6_box 245 = .ok (.iload_n 3, 1) := by decide +kernel
theorem dX6_box_246 : decode cX6_box 246 = .ok (.i2l, 1) := by decide +kernel
theorem dX6_box_247 : decode cX6_box 247 = .ok (.lcmp, 1) := by decide +kernel
theorem dX6_box_248 : decode cX6_box 248 = .ok (.ifCond .ne 44, 3) := by decide +kernel
theorem dX6_box_251 : decode cX6_box 251 = .ok (.lload 5, 2) := by decide +kernel
theorem dX6_box_253 : decode cX6_box 253 = .ok (.lconst 1, 1) := by decide +kernel
theorem dX6_box_254 : decode cX6_box 254 = .ok (.ladd, 1) := by decide +kernel
theorem dX6_box_255 : decode cX6_box 255 = .ok (.lstore 5, 2) := by decide +kernel
theorem dX6_box_257 : decode cX6_box 257 = .ok (.lload 7, 2) := by decide +kernel
theorem dX6_box_259 : decode cX6_box 259 = .ok (.ldc2_w 109, 3) := by decide +kernel
theorem dX6_box_262 : decode cX6_box 262 = .ok (.aload_n 0, 1) := by decide +kernel
theorem dX6_box_263 : decode cX6_box 263 = .ok (.getfield 13, 3) := by decide +kernel
theorem dX6_box_266 : decode cX6_box 266 = .ok (.bipush 9, 2) := by decide +kernel
theorem dX6_box_268 : decode cX6_box 268 = .ok (.iload 9, 2) := by decide +kernel
theorem dX6_box_270 : decode cX6_box 270 = .ok (.imul, 1) := by decide +kernel
theorem dX6_box_271 : decode cX6_box 271 = .ok (.iload 10, 2) := by decide +kernel
theorem dX6_box_273 : decode cX6_box 273 = .ok (.iadd, 1) := by decide +kernel
theorem dX6_box_274 : decode cX6_box 274 = .ok (.iaload, 1) := by decide +kernel
theorem dX6_box_275 : decode cX6_box 275 = .ok (.i2l, 1) := by decide +kernel
theorem dX6_box_276 : decode cX6_box 276 = .ok (.lmul, 1) := by decide +kernel
theorem dX6_box_277 : decode cX6_box 277 = .ok (.aload_n 0, 1) := by decide +kernel
theorem dX6_box_278 : decode cX6_box 278 = .ok (.getfield 141, 3) := by decide +kernel
theorem dX6_box_281 : decode cX6_box 281 = .ok (.aload_n 0, 1) := by decide +kernel
theorem dX6_box_282 : decode cX6_box 282 = .ok (.getfield 144, 3) := by decide +kernel
theorem dX6_box_285 : decode cX6_box 285 = .ok (.invokestatic 111, 3) := by decide +kernel
theorem dX6_box_288 : decode cX6_box 288 = .ok (.lsub, 1) := by decide +kernel
theorem dX6_box_289 : decode cX6_box 289 = .ok (.ladd, 1) := by decide +kernel
theorem dX6_box_290 : decode cX6_box 290 = .ok (.lstore 7, 2) := by decide +kernel
theorem dX6_box_292 : decode cX6_box 292 = .ok (.iinc 10 1, 3) := by decide +kernel
theorem dX6_box_295 : decode cX6_box 295 = .ok (.goto (-209), 3) := by decide +kernel
theorem dX6_box_298 : decode cX6_box 298 = .ok (.iinc 9 1, 3) := by decide +kernel
theorem dX6_box_301 : decode cX6_box 301 = .ok (.goto (-233), 3) := by decide +kernel
theorem dX6_box_304 : decode cX6_box 304 = .ok (.iload 4, 2) := by decide +kernel
theorem dX6_box_306 : decode cX6_box 306 = .ok (.ifCond .ne 8, 3) := by decide +kernel
theorem dX6_box_309 : decode cX6_box 309 = .ok (.lload 5, 2) := by decide +kernel
theorem dX6_box_311 : decode cX6_box 311 = .ok (.goto 5, 3) := by decide +kernel
theorem dX6_box_314 : decode cX6_box 314 = .ok (.lload 7, 2) := by decide +kernel
theorem dX6_box_316 : decode cX6_box 316 = .ok (.lreturn, 1) := by decide +kernel
theorem dX6_count_0 : decode cX6_count 0 = .ok (.iconst 0, 1) := by decide +kernel
theorem dX6_count_1 : decode cX6_count 1 = .ok (.istore_n 2, 1) := by decide +kernel
theorem dX6_count_2 : decode cX6_count 2 = .ok (.iconst 0, 1) := by decide +kernel
theorem dX6_count_3 : decode cX6_count 3 = .ok (.istore_n 3, 1) := by decide +kernel
theorem dX6_count_4 : decode cX6_count 4 = .ok (.iconst 0, 1) := by decide +kernel
theorem dX6_count_5 : decode cX6_count 5 = .ok (.istore 4, 2) := by decide +kernel
theorem dX6_count_7 : decode cX6_count 7 = .ok (.iload 4, 2) := by decide +kernel
theorem dX6_count_9 : decode cX6_count 9 = .ok (.bipush 9, 2) := by decide +kernel
theorem dX6_count_11 : decode cX6_count 11 = .ok (.aload_n 0, 1) := by decide +kernel
theorem dX6_count_12 : decode cX6_count 12 = .ok (.getfield 40, 3) := by decide +kernel
theorem dX6_count_15 : decode cX6_count 15 = .ok (.imul, 1) := by decide +kernel
theorem dX6_count_16 : decode cX6_count 16 = .ok (.if_icmp .ge 29, 3) := by decide +kernel
theorem dX6_count_19 : decode cX6_count 19 = .ok (.iload_n 2, 1) := by decide +kernel
theorem dX6_count_20 : decode cX6_count 20 = .ok (.aload_n 0, 1) := by decide +kernel
theorem dX6_count_21 : decode cX6_count 21 = .ok (.getfield 13, 3) := by decide +kernel
theorem dX6_count_24 : decode cX6_count 24 = .ok (.iload 4, 2) := by decide +kernel
theorem dX6_count_26 : decode cX6_count 26 = .ok (.iaload, 1) := by decide +kernel
theorem dX6_count_27 : decode cX6_count 27 = .ok (.ldc 39, 2) := by decide +kernel
theorem dX6_count_29 : decode cX6_count 29 = .ok (.if_icmp .eq 7, 3) := by decide +kernel
theorem dX6_count_32 : decode cX6_count 32 = .ok (.iconst 1, 1) := by decide +kernel
theorem dX6_count_33 : decode cX6_count 33 = .ok (.goto 4, 3) := by decide +kernel
theorem dX6_count_36 : decode cX6_count 36 = .ok (.iconst 0, 1) := by decide +kernel
theorem dX6_count_37 : decode cX6_count 37 = .ok (.iadd, 1) := by decide +kernel
theorem dX6_count_38 : decode cX6_count 38 = .ok (.istore_n 2, 1) := by decide +kernel
theorem dX6_count_39 : decode cX6_count 39 = .ok (.iinc 4 1, 3) := by decide +kernel
theorem dX6_count_42 : decode cX6_count 42 = .ok (.goto (-35), 3) := by decide +kernel
theorem dX6_count_45 : decode cX6_count 45 = .ok (.iconst 0, 1) := by decide +kernel
theorem dX6_count_46 : decode cX6_count 46 = .ok (.istore 4, 2) := by decide +kernel
theorem dX6_count_48 : decode cX6_count 48 = .ok (.iload 4, 2) := by decide +kernel
theorem dX6_count_50 : decode cX6_count 50 = .ok (.aload_n 0, 1) := by decide +kernel
theorem dX6_count_51 : decode cX6_count 51 = .ok (.getfield 40, 3) := by decide +kernel
theorem dX6_count_54 : decode cX6_count 54 = .ok (.if_icmp .ge 27, 3) := by decide +kernel
theorem dX6_count_57 : decode cX6_count 57 = .ok (.iload_n 3, 1) := by decide +kernel
theorem dX6_count_58 : decode cX6_count 58 = .ok (.aload_n 0, 1) := by decide +kernel
theorem dX6_count_59 : decode cX6_count 59 = .ok (.getfield 16, 3) := by decide +kernel
theorem dX6_count_62 : decode cX6_count 62 = .ok (.iload 4, 2) := by decide +kernel
theorem dX6_count_64 : decode cX6_count 64 = .ok (.baload, 1) := by decide +kernel
theorem dX6_count_65 : decode cX6_count 65 = .ok (.ifCond .eq 7, 3) := by decide +kernel
theorem dX6_count_68 : decode cX6_count 68 = .ok (.iconst 1, 1) := by decide +kernel
theorem dX6_count_69 : decode cX6_count 69 = .ok (.goto 4, 3) := by decide +kernel
theorem dX6_count_72 : decode cX6_count 72 = .ok (.iconst 0, 1) := by decide +kernel
theorem dX6_count_73 : decode cX6_count 73 = .ok (.iadd, 1) := by decide +kernel
theorem dX6_count_74 : decode cX6_count 74 = .ok (.istore_n 3, 1) := by decide +kernel
theorem dX6_count_75 : decode cX6_count 75 = .ok (.iinc 4 1, 3) := by decide +kernel
theorem dX6_count_78 : decode cX6_count 78 = .ok (.goto (-30), 3) := by decide +kernel
theorem dX6_count_81 : decode cX6_count 81 = .ok (.iload_n 1, 1) := by decide +kernel
theorem dX6_count_82 : decode cX6_count 82 = .ok (.tableswitch 44 0 3 #[30, 35, 37, 42], 30) := by decide +kernel
theorem dX6_count_112 : decode cX6_count 112 = .ok (.aload_n 0, 1) := by decide +kernel
theorem dX6_count_113 : decode cX6_count 113 = .ok (.getfield 40, 3) := by decide +kernel
theorem dX6_count_116 : decode cX6_count 116 = .ok (.ireturn, 1) := by decide +kernel
theorem dX6_count_117 : decode cX6_count 117 = .ok (.iload_n 2, 1) := by decide +kernel
theorem dX6_count_118 : decode cX6_count 118 = .ok (.ireturn, 1) := by decide +kernel
theorem dX6_count_119 : decode cX6_count 119 = .ok (.aload_n 0, 1) := by decide +kernel
theorem dX6_count_120 : decode cX6_count 120 = .ok (.getfield 159, 3) := by decide +kernel
theorem dX6_count_123 : decode cX6_count 123 = .ok (.ireturn, 1) := by decide +kernel
theorem dX6_count_124 : decode cX6_count 124 = .ok (.iload_n 3, 1) := by decide +kernel
theorem dX6_count_125 : decode cX6_count 125 = .ok (.ireturn, 1) := by decide +kernel
theorem dX6_count_126 : decode cX6_count 126 = .ok (.iconst (-1), 1) := by decide +kernel
theorem dX6_count_127 : decode cX6_count 127 = .ok (.ireturn, 1) := by decide +kernel
end
section
theorem dL_law_0 : decode cL_law 0 = .ok (.new 7, 3) := by decide +kernel
theorem dL_law_3 : decode cL_law 3 = .ok (.dup, 1) := by decide +kernel
theorem dL_law_4 : decode cL_law 4 = .ok (.invokespecial 9, 3) := by decide +kernel
theorem dL_law_7 : decode cL_law 7 = .ok (.astore_n 1, 1) := by decide +kernel
theorem dL_law_8 : decode cL_law 8 = .ok (.new 10, 3) := by decide +kernel
theorem dL_law_11 : decode cL_law 11 = .ok (.dup, 1) := by decide +kernel
theorem dL_law_12 : decode cL_law 12 = .ok (.invokespecial 12, 3) := by decide +kernel
theorem dL_law_15 : decode cL_law 15 = .ok (.astore_n 2, 1) := by decide +kernel
theorem dL_law_16 : decode cL_law 16 = .ok (.iconst 0, 1) := by decide +kernel
theorem dL_law_17 : decode cL_law 17 = .ok (.istore_n 3, 1) := by decide +kernel
theorem dL_law_18 : decode cL_law 18 = .ok (.iload_n 3, 1) := by decide +kernel
theorem dL_law_19 : decode cL_law 19 = .ok (.aload_n 0, 1) := by decide +kernel
theorem dL_law_20 : decode cL_law 20 = .ok (.arraylength, 1) := by decide +kernel
theorem dL_law_21 : decode cL_law 21 = .ok (.bipush 7, 2) := by decide +kernel
theorem dL_law_23 : decode cL_law 23 = .ok (.isub, 1) := by decide +kernel
theorem dL_law_24 : decode cL_law 24 = .ok (.if_icmp .gt 706, 3) := by decide +kernel
theorem dL_law_27 : decode cL_law 27 = .ok (.aload_n 0, 1) := by decide +kernel
theorem dL_law_28 : decode cL_law 28 = .ok (.iload_n 3, 1) := by decide +kernel
theorem dL_law_29 : decode cL_law 29 = .ok (.iaload, 1) := by decide +kernel
theorem dL_law_30 : decode cL_law 30 = .ok (.bipush 15, 2) := by decide +kernel
theorem dL_law_32 : decode cL_law 32 = .ok (.iand, 1) := by decide +kernel
theorem dL_law_33 : decode cL_law 33 = .ok (.tableswitch 691 0 15 #[79, 154, 197, 246, 300, 333, 366, 389, 423, 437, 451, 494, 517, 561, 614, 668], 79) := by decide +kernel
theorem dL_law_112 : decode cL_law 112 = .ok (.aload_n 1, 1) := by decide +kernel
theorem dL_law_113 : decode cL_law 113 = .ok (.aload_n 0, 1) := by decide +kernel
theorem dL_law_114 : decode cL_law 114 = .ok (.iload_n 3, 1) := by decide +kernel
theorem dL_law_115 : decode cL_law 115 = .ok (.iconst 1, 1) := by decide +kernel
theorem dL_law_116 : decode cL_law 116 = .ok (.iadd, 1) := by decide +kernel
theorem dL_law_117 : decode cL_law 117 = .ok (.iaload, 1) := by decide +kernel
theorem dL_law_118 : decode cL_law 118 = .ok (.aload_n 0, 1) := by decide +kernel
theorem dL_law_119 : decode cL_law 119 = .ok (.iload_n 3, 1) := by decide +kernel
theorem dL_law_120 : decode cL_law 120 = .ok (.iconst 2, 1) := by decide +kernel
theorem dL_law_121 : decode cL_law 121 = .ok (.iadd, 1) := by decide +kernel
theorem dL_law_122 : decode cL_law 122 = .ok (.iaload, 1) := by decide +kernel
theorem dL_law_123 : decode cL_law 123 = .ok (.aload_n 0, 1) := by decide +kernel
theorem dL_law_124 : decode cL_law 124 = .ok (.iload_n 3, 1) := by decide +kernel
theorem dL_law_125 : decode cL_law 125 = .ok (.iconst 3, 1) := by decide +kernel
theorem dL_law_126 : decode cL_law 126 = .ok (.iadd, 1) := by decide +kernel
theorem dL_law_127 : decode cL_law 127 = .ok (.iaload, 1) := by decide +kernel
theorem dL_law_128 : decode cL_law 128 = .ok (.aload_n 0, 1) := by decide +kernel
theorem dL_law_129 : decode cL_law 129 = .ok (.iload_n 3, 1) := by decide +kernel
theorem dL_law_130 : decode cL_law 130 = .ok (.iconst 4, 1) := by decide +kernel
theorem dL_law_131 : decode cL_law 131 = .ok (.iadd, 1) := by decide +kernel
theorem dL_law_132 : decode cL_law 132 = .ok (.iaload, 1) := by decide +kernel
theorem dL_law_133 : decode cL_law 133 = .ok (.aload_n 0, 1) := by decide +kernel
theorem dL_law_134 : decode cL_law 134 = .ok (.iload_n 3, 1) := by decide +kernel
theorem dL_law_135 : decode cL_law 135 = .ok (.iconst 5, 1) := by decide +kernel
theorem dL_law_136 : decode cL_law 136 = .ok (.iadd, 1) := by decide +kernel
theorem dL_law_137 : decode cL_law 137 = .ok (.iaload, 1) := by decide +kernel
theorem dL_law_138 : decode cL_law 138 = .ok (.aload_n 0, 1) := by decide +kernel
theorem dL_law_139 : decode cL_law 139 = .ok (.iload_n 3, 1) := by decide +kernel
theorem dL_law_140 : decode cL_law 140 = .ok (.bipush 6, 2) := by decide +kernel
theorem dL_law_142 : decode cL_law 142 = .ok (.iadd, 1) := by decide +kernel
theorem dL_law_143 : decode cL_law 143 = .ok (.iaload, 1) := by decide +kernel
theorem dL_law_144 : decode cL_law 144 = .ok (.invokevirtual 13, 3) := by decide +kernel
theorem dL_law_147 : decode cL_law 147 = .ok (.aload_n 2, 1) := by decide +kernel
theorem dL_law_148 : decode cL_law 148 = .ok (.aload_n 0, 1) := by decide +kernel
theorem dL_law_149 : decode cL_law 149 = .ok (.iload_n 3, 1) := by decide +kernel
theorem dL_law_150 : decode cL_law 150 = .ok (.iconst 1, 1) := by decide +kernel
theorem dL_law_151 : decode cL_law 151 = .ok (.iadd, 1) := by decide +kernel
theorem dL_law_152 : decode cL_law 152 = .ok (.iaload, 1) := by decide +kernel
theorem dL_law_153 : decode cL_law 153 = .ok (.aload_n 0, 1) := by decide +kernel
theorem dL_law_154 : decode cL_law 154 = .ok (.iload_n 3, 1) := by decide +kernel
theorem dL_law_155 : decode cL_law 155 = .ok (.iconst 2, 1) := by decide +kernel
theorem dL_law_156 : decode cL_law 156 = .ok (.iadd, 1) := by decide +kernel
theorem dL_law_157 : decode cL_law 157 = .ok (.iaload, 1) := by decide +kernel
theorem dL_law_158 : decode cL_law 158 = .ok (.aload_n 0, 1) := by decide +kernel
theorem dL_law_159 : decode cL_law 159 = .ok (.iload_n 3, 1) := by decide +kernel
theorem dL_law_160 : decode cL_law 160 = .ok (.iconst 3, 1) := by decide +kernel
theorem dL_law_161 : decode cL_law 161 = .ok (.iadd, 1) := by decide +kernel
theorem dL_law_162 : decode cL_law 162 = .ok (.iaload, 1) := by decide +kernel
theorem dL_law_163 : decode cL_law 163 = .ok (.aload_n 0, 1) := by decide +kernel
theorem dL_law_164 : decode cL_law 164 = .ok (.iload_n 3, 1) := by decide +kernel
theorem dL_law_165 : decode cL_law 165 = .ok (.iconst 4, 1) := by decide +kernel
theorem dL_law_166 : decode cL_law 166 = .ok (.iadd, 1) := by decide +kernel
theorem dL_law_167 : decode cL_law 167 = .ok (.iaload, 1) := by decide +kernel
theorem dL_law_168 : decode cL_law 168 = .ok (.aload_n 0, 1) := by decide +kernel
theorem dL_law_169 : decode cL_law 169 = .ok (.iload_n 3, 1) := by decide +kernel
theorem dL_law_170 : decode cL_law 170 = .ok (.iconst 5, 1) := by decide +kernel
theorem dL_law_171 : decode cL_law 171 = .ok (.iadd, 1) := by decide +kernel
theorem dL_law_172 : decode cL_law 172 = .ok (.iaload, 1) := by decide +kernel
theorem dL_law_173 : decode cL_law 173 = .ok (.aload_n 0, 1) := by decide +kernel
theorem dL_law_174 : decode cL_law 174 = .ok (.iload_n 3, 1) := by decide +kernel
theorem dL_law_175 : decode cL_law 175 = .ok (.bipush 6, 2) := by decide +kernel
theorem dL_law_177 : decode cL_law 177 = .ok (.iadd, 1) := by decide +kernel
theorem dL_law_178 : decode cL_law 178 = .ok (.iaload, 1) := by decide +kernel
theorem dL_law_179 : decode cL_law 179 = .ok (.invokevirtual 17, 3) := by decide +kernel
theorem dL_law_182 : decode cL_law 182 = .ok (.if_icmp .eq 542, 3) := by decide +kernel
theorem dL_law_185 : decode cL_law 185 = .ok (.iconst 0, 1) := by decide +kernel
theorem dL_law_186 : decode cL_law 186 = .ok (.ireturn, 1) := by decide +kernel
theorem dL_law_187 : decode cL_law 187 = .ok (.aload_n 1, 1) := by decide +kernel
theorem dL_law_188 : decode cL_law 188 = .ok (.aload_n 0, 1) := by decide +kernel
theorem dL_law_189 : decode cL_law 189 = .ok (.iload_n 3, 1) := by decide +kernel
theorem dL_law_190 : decode cL_law 190 = .ok (.iconst 1, 1) := by decide +kernel
theorem dL_law_191 : decode cL_law 191 = .ok (.iadd, 1) := by decide +kernel
theorem dL_law_192 : decode cL_law 192 = .ok (.iaload, 1) := by decide +kernel
theorem dL_law_193 : decode cL_law 193 = .ok (.aload_n 0, 1) := by decide +kernel
theorem dL_law_194 : decode cL_law 194 = .ok (.iload_n 3, 1) := by decide +kernel
theorem dL_law_195 : decode cL_law 195 = .ok (.iconst 2, 1) := by decide +kernel
theorem dL_law_196 : decode cL_law 196 = .ok (.iadd, 1) := by decide +kernel
theorem dL_law_197 : decode cL_law 197 = .ok (.iaload, 1) := by decide +kernel
theorem dL_law_198 : decode cL_law 198 = .ok (.aload_n 0, 1) := by decide +kernel
theorem dL_law_199 : decode cL_law 199 = .ok (.iload_n 3, 1) := by decide +kernel
theorem dL_law_200 : decode cL_law 200 = .ok (.iconst 3, 1) := by decide +kernel
theorem dL_law_201 : decode cL_law 201 = .ok (.iadd, 1) := by decide +kernel
theorem dL_law_202 : decode cL_law 202 = .ok (.iaload, 1) := by decide +kernel
theorem dL_law_203 : decode cL_law 203 = .ok (.invokevirtual 18, 3) := by decide +kernel
theorem dL_law_206 : decode cL_law 206 = .ok (.aload_n 2, 1) := by decide +kernel
theorem dL_law_207 : decode cL_law 207 = .ok (.aload_n 0, 1) := by decide +kernel
theorem dL_law_208 : decode cL_law 208 = .ok (.iload_n 3, 1) := by decide +kernel
theorem dL_law_209 : decode cL_law 209 = .ok (.iconst 1, 1) := by decide +kernel
theorem dL_law_210 : decode cL_law 210 = .ok (.iadd, 1) := by decide +kernel
theorem dL_law_211 : decode cL_law 211 = .ok (.iaload, 1) := by decide +kernel
theorem dL_law_212 : decode cL_law 212 = .ok (.aload_n 0, 1) := by decide +kernel
theorem dL_law_213 : decode cL_law 213 = .ok (.iload_n 3, 1) := by decide +kernel
theorem dL_law_214 : decode cL_law 214 = .ok (.iconst 2, 1) := by decide +kernel
theorem dL_law_215 : decode cL_law 215 = .ok (.iadd, 1) := by decide +kernel
theorem dL_law_216 : decode cL_law 216 = .ok (.iaload, 1) := by decide +kernel
theorem dL_law_217 : decode cL_law 217 = .ok (.aload_n 0, 1) := by decide +kernel
theorem dL_law_218 : decode cL_law 218 = .ok (.iload_n 3, 1) := by decide +kernel
theorem dL_law_219 : decode cL_law 219 = .ok (.iconst 3, 1) := by decide +kernel
theorem dL_law_220 : decode cL_law 220 = .ok (.iadd, 1) := by decide +kernel
theorem dL_law_221 : decode cL_law 221 = .ok (.iaload, 1) := by decide +kernel
theorem dL_law_222 : decode cL_law 222 = .ok (.invokevirtual 22, 3) := by decide +kernel
theorem dL_law_225 : decode cL_law 225 = .ok (.if_icmp .eq 499, 3) := by decide +kernel
theorem dL_law_228 : decode cL_law 228 = .ok (.iconst 0, 1) := by decide +kernel
theorem dL_law_229 : decode cL_law 229 = .ok (.ireturn, 1) := by decide +kernel
theorem dL_law_230 : decode cL_law 230 = .ok (.aload_n 1, 1) := by decide +kernel
theorem dL_law_231 : decode cL_law 231 = .ok (.aload_n 0, 1) := by decide +kernel
theorem dL_law_232 : decode cL_law 232 = .ok (.iload_n 3, 1) := by decide +kernel
theorem dL_law_233 : decode cL_law 233 = .ok (.iconst 1, 1) := by decide +kernel
theorem dL_law_234 : decode cL_law 234 = .ok (.iadd, 1) := by decide +kernel
theorem dL_law_235 : decode cL_law 235 = .ok (.iaload, 1) := by decide +kernel
theorem dL_law_236 : decode cL_law 236 = .ok (.aload_n 0, 1) := by decide +kernel
theorem dL_law_237 : decode cL_law 237 = .ok (.iload_n 3, 1) := by decide +kernel
theorem dL_law_238 : decode cL_law 238 = .ok (.iconst 2, 1) := by decide +kernel
theorem dL_law_239 : decode cL_law 239 = .ok (.iadd, 1) := by decide +kernel
theorem dL_law_240 : decode cL_law 240 = .ok (.iaload, 1) := by decide +kernel
theorem dL_law_241 : decode cL_law 241 = .ok (.ifCond .eq 7, 3) := by decide +kernel
theorem dL_law_244 : decode cL_law 244 = .ok (.iconst 1, 1) := by decide +kernel
theorem dL_law_245 : decode cL_law 245 = .ok (.goto 4, 3) := by decide +kernel
theorem dL_law_248 : decode cL_law 248 = .ok (.iconst 0, 1) := by decide +kernel
theorem dL_law_249 : decode cL_law 249 = .ok (.invokevirtual 23, 3) := by decide +kernel
theorem dL_law_252 : decode cL_law 252 = .ok (.aload_n 2, 1) := by decide +kernel
theorem dL_law_253 : decode cL_law 253 = .ok (.aload_n 0, 1) := by decide +kernel
theorem dL_law_254 : decode cL_law 254 = .ok (.iload_n 3, 1) := by decide +kernel
theorem dL_law_255 : decode cL_law 255 = .ok (.iconst 1, 1) := by decide +kernel
theorem dL_law_256 : decode cL_law 256 = .ok (.iadd, 1) := by decide +kernel
theorem dL_law_257 : decode cL_law 257 = .ok (.iaload, 1) := by decide +kernel
theorem dL_law_258 : decode cL_law 258 = .ok (.aload_n 0, 1) := by decide +kernel
theorem dL_law_259 : decode cL_law 259 = .ok (.iload_n 3, 1) := by decide +kernel
theorem dL_law_260 : decode cL_law 260 = .ok (.iconst 2, 1) := by decide +kernel
theorem dL_law_261 : decode cL_law 261 = .ok (.iadd, 1) := by decide +kernel
theorem dL_law_262 : decode cL_law 262 = .ok (.iaload, 1) := by decide +kernel
theorem dL_law_263 : decode cL_law 263 = .ok (.ifCond .eq 7, 3) := by decide +kernel
theorem dL_law_266 : decode cL_law 266 = .ok (.iconst 1, 1) := by decide +kernel
theorem dL_law_267 : decode cL_law 267 = .ok (.goto 4, 3) := by decide +kernel
theorem dL_law_270 : decode cL_law 270 = .ok (.iconst 0, 1) := by decide +kernel
theorem dL_law_271 : decode cL_law 271 = .ok (.invokevirtual 27, 3) := by decide +kernel
theorem dL_law_274 : decode cL_law 274 = .ok (.if_icmp .eq 450, 3) := by decide +kernel
theorem dL_law_277 : decode cL_law 277 = .ok (.iconst 0, 1) := by decide +kernel
theorem dL_law_278 : decode cL_law 278 = .ok (.ireturn, 1) := by decide +kernel
theorem dL_law_279 : decode cL_law 279 = .ok (.aload_n 1, 1) := by decide +kernel
theorem dL_law_280 : decode cL_law 280 = .ok (.aload_n 0, 1) := by decide +kernel
theorem dL_law_281 : decode cL_law 281 = .ok (.iload_n 3, 1) := by decide +kernel
theorem dL_law_282 : decode cL_law 282 = .ok (.iconst 1, 1) := by decide +kernel
theorem dL_law_283 : decode cL_law 283 = .ok (.iadd, 1) := by decide +kernel
theorem dL_law_284 : decode cL_law 284 = .ok (.iaload, 1) := by decide +kernel
theorem dL_law_285 : decode cL_law 285 = .ok (.aload_n 0, 1) := by decide +kernel
theorem dL_law_286 : decode cL_law 286 = .ok (.iload_n 3, 1) := by decide +kernel
theorem dL_law_287 : decode cL_law 287 = .ok (.iconst 2, 1) := by decide +kernel
theorem dL_law_288 : decode cL_law 288 = .ok (.iadd, 1) := by decide +kernel
theorem dL_law_289 : decode cL_law 289 = .ok (.iaload, 1) := by decide +kernel
theorem dL_law_290 : decode cL_law 290 = .ok (.aload_n 0, 1) := by decide +kernel
theorem dL_law_291 : decode cL_law 291 = .ok (.iload_n 3, 1) := by decide +kernel
theorem dL_law_292 : decode cL_law 292 = .ok (.iconst 3, 1) := by decide +kernel
theorem dL_law_293 : decode cL_law 293 = .ok (.iadd, 1) := by decide +kernel
theorem dL_law_294 : decode cL_law 294 = .ok (.iaload, 1) := by decide +kernel
theorem dL_law_295 : decode cL_law 295 = .ok (.aload_n 0, 1) := by decide +kernel
theorem dL_law_296 : decode cL_law 296 = .ok (.iload_n 3, 1) := by decide +kernel
theorem dL_law_297 : decode cL_law 297 = .ok (.iconst 4, 1) := by decide +kernel
theorem dL_law_298 : decode cL_law 298 = .ok (.iadd, 1) := by decide +kernel
theorem dL_law_299 : decode cL_law 299 = .ok (.iaload, 1) := by decide +kernel
theorem dL_law_300 : decode cL_law 300 = .ok (.invokevirtual 28, 3) := by decide +kernel
theorem dL_law_303 : decode cL_law 303 = .ok (.aload_n 2, 1) := by decide +kernel
theorem dL_law_304 : decode cL_law 304 = .ok (.aload_n 0, 1) := by decide +kernel
theorem dL_law_305 : decode cL_law 305 = .ok (.iload_n 3, 1) := by decide +kernel
theorem dL_law_306 : decode cL_law 306 = .ok (.iconst 1, 1) := by decide +kernel
theorem dL_law_307 : decode cL_law 307 = .ok (.iadd, 1) := by decide +kernel
theorem dL_law_308 : decode cL_law 308 = .ok (.iaload, 1) := by decide +kernel
theorem dL_law_309 : decode cL_law 309 = .ok (.aload_n 0, 1) := by decide +kernel
theorem dL_law_310 : decode cL_law 310 = .ok (.iload_n 3, 1) := by decide +kernel
theorem dL_law_311 : decode cL_law 311 = .ok (.iconst 2, 1) := by decide +kernel
theorem dL_law_312 : decode cL_law 312 = .ok (.iadd, 1) := by decide +kernel
theorem dL_law_313 : decode cL_law 313 = .ok (.iaload, 1) := by decide +kernel
theorem dL_law_314 : decode cL_law 314 = .ok (.aload_n 0, 1) := by decide +kernel
theorem dL_law_315 : decode cL_law 315 = .ok (.iload_n 3, 1) := by decide +kernel
theorem dL_law_316 : decode cL_law 316 = .ok (.iconst 3, 1) := by decide +kernel
theorem dL_law_317 : decode cL_law 317 = .ok (.iadd, 1) := by decide +kernel
theorem dL_law_318 : decode cL_law 318 = .ok (.iaload, 1) := by decide +kernel
theorem dL_law_319 : decode cL_law 319 = .ok (.aload_n 0, 1) := by decide +kernel
theorem dL_law_320 : decode cL_law 320 = .ok (.iload_n 3, 1) := by decide +kernel
theorem dL_law_321 : decode cL_law 321 = .ok (.iconst 4, 1) := by decide +kernel
theorem dL_law_322 : decode cL_law 322 = .ok (.iadd, 1) := by decide +kernel
theorem dL_law_323 : decode cL_law 323 = .ok (.iaload, 1) := by decide +kernel
theorem dL_law_324 : decode cL_law 324 = .ok (.invokevirtual 32, 3) := by decide +kernel
theorem dL_law_327 : decode cL_law 327 = .ok (.lcmp, 1) := by decide +kernel
theorem dL_law_328 : decode cL_law 328 = .ok (.ifCond .eq 396, 3) := by decide +kernel
theorem dL_law_331 : decode cL_law 331 = .ok (.iconst 0, 1) := by decide +kernel
theorem dL_law_332 : decode cL_law 332 = .ok (.ireturn, 1) := by decide +kernel
theorem dL_law_333 : decode cL_law 333 = .ok (.aload_n 1, 1) := by decide +kernel
theorem dL_law_334 : decode cL_law 334 = .ok (.aload_n 0, 1) := by decide +kernel
theorem dL_law_335 : decode cL_law 335 = .ok (.iload_n 3, 1) := by decide +kernel
theorem dL_law_336 : decode cL_law 336 = .ok (.iconst 1, 1) := by decide +kernel
theorem dL_law_337 : decode cL_law 337 = .ok (.iadd, 1) := by decide +kernel
theorem dL_law_338 : decode cL_law 338 = .ok (.iaload, 1) := by decide +kernel
theorem dL_law_339 : decode cL_law 339 = .ok (.aload_n 0, 1) := by decide +kernel
theorem dL_law_340 : decode cL_law 340 = .ok (.iload_n 3, 1) := by decide +kernel
theorem dL_law_341 : decode cL_law 341 = .ok (.iconst 2, 1) := by decide +kernel
theorem dL_law_342 : decode cL_law 342 = .ok (.iadd, 1) := by decide +kernel
theorem dL_law_343 : decode cL_law 343 = .ok (.iaload, 1) := by decide +kernel
theorem dL_law_344 : decode cL_law 344 = .ok (.invokevirtual 33, 3) := by decide +kernel
theorem dL_law_347 : decode cL_law 347 = .ok (.aload_n 2, 1) := by decide +kernel
theorem dL_law_348 : decode cL_law 348 = .ok (.aload_n 0, 1) := by decide +kernel
theorem dL_law_349 : decode cL_law 349 = .ok (.iload_n 3, 1) := by decide +kernel
theorem dL_law_350 : decode cL_law 350 = .ok (.iconst 1, 1) := by decide +kernel
theorem dL_law_351 : decode cL_law 351 = .ok (.iadd, 1) := by decide +kernel
theorem dL_law_352 : decode cL_law 352 = .ok (.iaload, 1) := by decide +kernel
theorem dL_law_353 : decode cL_law 353 = .ok (.aload_n 0, 1) := by decide +kernel
theorem dL_law_354 : decode cL_law 354 = .ok (.iload_n 3, 1) := by decide +kernel
theorem dL_law_355 : decode cL_law 355 = .ok (.iconst 2, 1) := by decide +kernel
theorem dL_law_356 : decode cL_law 356 = .ok (.iadd, 1) := by decide +kernel
theorem dL_law_357 : decode cL_law 357 = .ok (.iaload, 1) := by decide +kernel
theorem dL_law_358 : decode cL_law 358 = .ok (.invokevirtual 37, 3) := by decide +kernel
theorem dL_law_361 : decode cL_law 361 = .ok (.if_icmp .eq 363, 3) := by decide +kernel
theorem dL_law_364 : decode cL_law 364 = .ok (.iconst 0, 1) := by decide +kernel
theorem dL_law_365 : decode cL_law 365 = .ok (.ireturn, 1) := by decide +kernel
theorem dL_law_366 : decode cL_law 366 = .ok (.aload_n 1, 1) := by decide +kernel
theorem dL_law_367 : decode cL_law 367 = .ok (.aload_n 0, 1) := by decide +kernel
theorem dL_law_368 : decode cL_law 368 = .ok (.iload_n 3, 1) := by decide +kernel
theorem dL_law_369 : decode cL_law 369 = .ok (.iconst 1, 1) := by decide +kernel
theorem dL_law_370 : decode cL_law 370 = .ok (.iadd, 1) := by decide +kernel
theorem dL_law_371 : decode cL_law 371 = .ok (.iaload, 1) := by decide +kernel
theorem dL_law_372 : decode cL_law 372 = .ok (.aload_n 0, 1) := by decide +kernel
theorem dL_law_373 : decode cL_law 373 = .ok (.iload_n 3, 1) := by decide +kernel
theorem dL_law_374 : decode cL_law 374 = .ok (.iconst 2, 1) := by decide +kernel
theorem dL_law_375 : decode cL_law 375 = .ok (.iadd, 1) := by decide +kernel
theorem dL_law_376 : decode cL_law 376 = .ok (.iaload, 1) := by decide +kernel
theorem dL_law_377 : decode cL_law 377 = .ok (.invokevirtual 38, 3) := by decide +kernel
theorem dL_law_380 : decode cL_law 380 = .ok (.aload_n 2, 1) := by decide +kernel
theorem dL_law_381 : decode cL_law 381 = .ok (.aload_n 0, 1) := by decide +kernel
theorem dL_law_382 : decode cL_law 382 = .ok (.iload_n 3, 1) := by decide +kernel
theorem dL_law_383 : decode cL_law 383 = .ok (.iconst 1, 1) := by decide +kernel
theorem dL_law_384 : decode cL_law 384 = .ok (.iadd, 1) := by decide +kernel
theorem dL_law_385 : decode cL_law 385 = .ok (.iaload, 1) := by decide +kernel
theorem dL_law_386 : decode cL_law 386 = .ok (.aload_n 0, 1) := by decide +kernel
theorem dL_law_387 : decode cL_law 387 = .ok (.iload_n 3, 1) := by decide +kernel
theorem dL_law_388 : decode cL_law 388 = .ok (.iconst 2, 1) := by decide +kernel
theorem dL_law_389 : decode cL_law 389 = .ok (.iadd, 1) := by decide +kernel
theorem dL_law_390 : decode cL_law 390 = .ok (.iaload, 1) := by decide +kernel
theorem dL_law_391 : decode cL_law 391 = .ok (.invokevirtual 41, 3) := by decide +kernel
theorem dL_law_394 : decode cL_law 394 = .ok (.if_icmp .eq 330, 3) := by decide +kernel
theorem dL_law_397 : decode cL_law 397 = .ok (.iconst 0, 1) := by decide +kernel
theorem dL_law_398 : decode cL_law 398 = .ok (.ireturn, 1) := by decide +kernel
theorem dL_law_399 : decode cL_law 399 = .ok (.aload_n 1, 1) := by decide +kernel
theorem dL_law_400 : decode cL_law 400 = .ok (.aload_n 0, 1) := by decide +kernel
theorem dL_law_401 : decode cL_law 401 = .ok (.iload_n 3, 1) := by decide +kernel
theorem dL_law_402 : decode cL_law 402 = .ok (.iconst 1, 1) := by decide +kernel
theorem dL_law_403 : decode cL_law 403 = .ok (.iadd, 1) := by decide +kernel
theorem dL_law_404 : decode cL_law 404 = .ok (.iaload, 1) := by decide +kernel
theorem dL_law_405 : decode cL_law 405 = .ok (.invokevirtual 42, 3) := by decide +kernel
theorem dL_law_408 : decode cL_law 408 = .ok (.aload_n 2, 1) := by decide +kernel
theorem dL_law_409 : decode cL_law 409 = .ok (.aload_n 0, 1) := by decide +kernel
theorem dL_law_410 : decode cL_law 410 = .ok (.iload_n 3, 1) := by decide +kernel
theorem dL_law_411 : decode cL_law 411 = .ok (.iconst 1, 1) := by decide +kernel
theorem dL_law_412 : decode cL_law 412 = .ok (.iadd, 1) := by decide +kernel
theorem dL_law_413 : decode cL_law 413 = .ok (.iaload, 1) := by decide +kernel
theorem dL_law_414 : decode cL_law 414 = .ok (.invokevirtual 46, 3) := by decide +kernel
theorem dL_law_417 : decode cL_law 417 = .ok (.if_icmp .eq 307, 3) := by decide +kernel
theorem dL_law_420 : decode cL_law 420 = .ok (.iconst 0, 1) := by decide +kernel
theorem dL_law_421 : decode cL_law 421 = .ok (.ireturn, 1) := by decide +kernel
theorem dL_law_422 : decode cL_law 422 = .ok (.aload_n 1, 1) := by decide +kernel
theorem dL_law_423 : decode cL_law 423 = .ok (.aload_n 0, 1) := by decide +kernel
theorem dL_law_424 : decode cL_law 424 = .ok (.iload_n 3, 1) := by decide +kernel
theorem dL_law_425 : decode cL_law 425 = .ok (.iconst 1, 1) := by decide +kernel
theorem dL_law_426 : decode cL_law 426 = .ok (.iadd, 1) := by decide +kernel
theorem dL_law_427 : decode cL_law 427 = .ok (.iaload, 1) := by decide +kernel
theorem dL_law_428 : decode cL_law 428 = .ok (.aload_n 0, 1) := by decide +kernel
theorem dL_law_429 : decode cL_law 429 = .ok (.iload_n 3, 1) := by decide +kernel
theorem dL_law_430 : decode cL_law 430 = .ok (.iconst 2, 1) := by decide +kernel
theorem dL_law_431 : decode cL_law 431 = .ok (.iadd, 1) := by decide +kernel
theorem dL_law_432 : decode cL_law 432 = .ok (.iaload, 1) := by decide +kernel
theorem dL_law_433 : decode cL_law 433 = .ok (.invokevirtual 47, 3) := by decide +kernel
theorem dL_law_436 : decode cL_law 436 = .ok (.aload_n 2, 1) := by decide +kernel
theorem dL_law_437 : decode cL_law 437 = .ok (.aload_n 0, 1) := by decide +kernel
theorem dL_law_438 : decode cL_law 438 = .ok (.iload_n 3, 1) := by decide +kernel
theorem dL_law_439 : decode cL_law 439 = .ok (.iconst 1, 1) := by decide +kernel
theorem dL_law_440 : decode cL_law 440 = .ok (.iadd, 1) := by decide +kernel
theorem dL_law_441 : decode cL_law 441 = .ok (.iaload, 1) := by decide +kernel
theorem dL_law_442 : decode cL_law 442 = .ok (.aload_n 0, 1) := by decide +kernel
theorem dL_law_443 : decode cL_law 443 = .ok (.iload_n 3, 1) := by decide +kernel
theorem dL_law_444 : decode cL_law 444 = .ok (.iconst 2, 1) := by decide +kernel
theorem dL_law_445 : decode cL_law 445 = .ok (.iadd, 1) := by decide +kernel
theorem dL_law_446 : decode cL_law 446 = .ok (.iaload, 1) := by decide +kernel
theorem dL_law_447 : decode cL_law 447 = .ok (.invokevirtual 51, 3) := by decide +kernel
theorem dL_law_450 : decode cL_law 450 = .ok (.lcmp, 1) := by decide +kernel
theorem dL_law_451 : decode cL_law 451 = .ok (.ifCond .eq 273, 3) := by decide +kernel
theorem dL_law_454 : decode cL_law 454 = .ok (.iconst 0, 1) := by decide +kernel
theorem dL_law_455 : decode cL_law 455 = .ok (.ireturn, 1) := by decide +kernel
theorem dL_law_456 : decode cL_law 456 = .ok (.aload_n 1, 1) := by decide +kernel
theorem dL_law_457 : decode cL_law 457 = .ok (.invokevirtual 52, 3) := by decide +kernel
theorem dL_law_460 : decode cL_law 460 = .ok (.aload_n 2, 1) := by decide +kernel
theorem dL_law_461 : decode cL_law 461 = .ok (.invokevirtual 56, 3) := by decide +kernel
theorem dL_law_464 : decode cL_law 464 = .ok (.lcmp, 1) := by decide +kernel
theorem dL_law_465 : decode cL_law 465 = .ok (.ifCond .eq 259, 3) := by decide +kernel
theorem dL_law_468 : decode cL_law 468 = .ok (.iconst 0, 1) := by decide +kernel
theorem dL_law_469 : decode cL_law 469 = .ok (.ireturn, 1) := by decide +kernel
theorem dL_law_470 : decode cL_law 470 = .ok (.aload_n 1, 1) := by decide +kernel
theorem dL_law_471 : decode cL_law 471 = .ok (.invokevirtual 57, 3) := by decide +kernel
theorem dL_law_474 : decode cL_law 474 = .ok (.aload_n 2, 1) := by decide +kernel
theorem dL_law_475 : decode cL_law 475 = .ok (.invokevirtual 60, 3) := by decide +kernel
theorem dL_law_478 : decode cL_law 478 = .ok (.lcmp, 1) := by decide +kernel
theorem dL_law_479 : decode cL_law 479 = .ok (.ifCond .eq 245, 3) := by decide +kernel
theorem dL_law_482 : decode cL_law 482 = .ok (.iconst 0, 1) := by decide +kernel
theorem dL_law_483 : decode cL_law 483 = .ok (.ireturn, 1) := by decide +kernel
theorem dL_law_484 : decode cL_law 484 = .ok (.aload_n 1, 1) := by decide +kernel
theorem dL_law_485 : decode cL_law 485 = .ok (.aload_n 0, 1) := by decide +kernel
theorem dL_law_486 : decode cL_law 486 = .ok (.iload_n 3, 1) := by decide +kernel
theorem dL_law_487 : decode cL_law 487 = .ok (.iconst 1, 1) := by decide +kernel
theorem dL_law_488 : decode cL_law 488 = .ok (.iadd, 1) := by decide +kernel
theorem dL_law_489 : decode cL_law 489 = .ok (.iaload, 1) := by decide +kernel
theorem dL_law_490 : decode cL_law 490 = .ok (.aload_n 0, 1) := by decide +kernel
theorem dL_law_491 : decode cL_law 491 = .ok (.iload_n 3, 1) := by decide +kernel
theorem dL_law_492 : decode cL_law 492 = .ok (.iconst 2, 1) := by decide +kernel
theorem dL_law_493 : decode cL_law 493 = .ok (.iadd, 1) := by decide +kernel
theorem dL_law_494 : decode cL_law 494 = .ok (.iaload, 1) := by decide +kernel
theorem dL_law_495 : decode cL_law 495 = .ok (.aload_n 0, 1) := by decide +kernel
theorem dL_law_496 : decode cL_law 496 = .ok (.iload_n 3, 1) := by decide +kernel
theorem dL_law_497 : decode cL_law 497 = .ok (.iconst 3, 1) := by decide +kernel
theorem dL_law_498 : decode cL_law 498 = .ok (.iadd, 1) := by decide +kernel
theorem dL_law_499 : decode cL_law 499 = .ok (.iaload, 1) := by decide +kernel
theorem dL_law_500 : decode cL_law 500 = .ok (.invokevirtual 61, 3) := by decide +kernel
theorem dL_law_503 : decode cL_law 503 = .ok (.aload_n 2, 1) := by decide +kernel
theorem dL_law_504 : decode cL_law 504 = .ok (.aload_n 0, 1) := by decide +kernel
theorem dL_law_505 : decode cL_law 505 = .ok (.iload_n 3, 1) := by decide +kernel
theorem dL_law_506 : decode cL_law 506 = .ok (.iconst 1, 1) := by decide +kernel
theorem dL_law_507 : decode cL_law 507 = .ok (.iadd, 1) := by decide +kernel
theorem dL_law_508 : decode cL_law 508 = .ok (.iaload, 1) := by decide +kernel
theorem dL_law_509 : decode cL_law 509 = .ok (.aload_n 0, 1) := by decide +kernel
theorem dL_law_510 : decode cL_law 510 = .ok (.iload_n 3, 1) := by decide +kernel
theorem dL_law_511 : decode cL_law 511 = .ok (.iconst 2, 1) := by decide +kernel
theorem dL_law_512 : decode cL_law 512 = .ok (.iadd, 1) := by decide +kernel
theorem dL_law_513 : decode cL_law 513 = .ok (.iaload, 1) := by decide +kernel
theorem dL_law_514 : decode cL_law 514 = .ok (.aload_n 0, 1) := by decide +kernel
theorem dL_law_515 : decode cL_law 515 = .ok (.iload_n 3, 1) := by decide +kernel
theorem dL_law_516 : decode cL_law 516 = .ok (.iconst 3, 1) := by decide +kernel
theorem dL_law_517 : decode cL_law 517 = .ok (.iadd, 1) := by decide +kernel
theorem dL_law_518 : decode cL_law 518 = .ok (.iaload, 1) := by decide +kernel
theorem dL_law_519 : decode cL_law 519 = .ok (.invokevirtual 64, 3) := by decide +kernel
theorem dL_law_522 : decode cL_law 522 = .ok (.if_icmp .eq 202, 3) := by decide +kernel
theorem dL_law_525 : decode cL_law 525 = .ok (.iconst 0, 1) := by decide +kernel
theorem dL_law_526 : decode cL_law 526 = .ok (.ireturn, 1) := by decide +kernel
theorem dL_law_527 : decode cL_law 527 = .ok (.aload_n 1, 1) := by decide +kernel
theorem dL_law_528 : decode cL_law 528 = .ok (.aload_n 0, 1) := by decide +kernel
theorem dL_law_529 : decode cL_law 529 = .ok (.iload_n 3, 1) := by decide +kernel
theorem dL_law_530 : decode cL_law 530 = .ok (.iconst 1, 1) := by decide +kernel
theorem dL_law_531 : decode cL_law 531 = .ok (.iadd, 1) := by decide +kernel
theorem dL_law_532 : decode cL_law 532 = .ok (.iaload, 1) := by decide +kernel
theorem dL_law_533 : decode cL_law 533 = .ok (.invokevirtual 65, 3) := by decide +kernel
theorem dL_law_536 : decode cL_law 536 = .ok (.aload_n 2, 1) := by decide +kernel
theorem dL_law_537 : decode cL_law 537 = .ok (.aload_n 0, 1) := by decide +kernel
theorem dL_law_538 : decode cL_law 538 = .ok (.iload_n 3, 1) := by decide +kernel
theorem dL_law_539 : decode cL_law 539 = .ok (.iconst 1, 1) := by decide +kernel
theorem dL_law_540 : decode cL_law 540 = .ok (.iadd, 1) := by decide +kernel
theorem dL_law_541 : decode cL_law 541 = .ok (.iaload, 1) := by decide +kernel
theorem dL_law_542 : decode cL_law 542 = .ok (.invokevirtual 68, 3) := by decide +kernel
theorem dL_law_545 : decode cL_law 545 = .ok (.if_icmp .eq 179, 3) := by decide +kernel
theorem dL_law_548 : decode cL_law 548 = .ok (.iconst 0, 1) := by decide +kernel
theorem dL_law_549 : decode cL_law 549 = .ok (.ireturn, 1) := by decide +kernel
theorem dL_law_550 : decode cL_law 550 = .ok (.aload_n 1, 1) := by decide +kernel
theorem dL_law_551 : decode cL_law 551 = .ok (.aload_n 0, 1) := by decide +kernel
theorem dL_law_552 : decode cL_law 552 = .ok (.iload_n 3, 1) := by decide +kernel
theorem dL_law_553 : decode cL_law 553 = .ok (.iconst 1, 1) := by decide +kernel
theorem dL_law_554 : decode cL_law 554 = .ok (.iadd, 1) := by decide +kernel
theorem dL_law_555 : decode cL_law 555 = .ok (.iaload, 1) := by decide +kernel
theorem dL_law_556 : decode cL_law 556 = .ok (.aload_n 0, 1) := by decide +kernel
theorem dL_law_557 : decode cL_law 557 = .ok (.iload_n 3, 1) := by decide +kernel
theorem dL_law_558 : decode cL_law 558 = .ok (.iconst 2, 1) := by decide +kernel
theorem dL_law_559 : decode cL_law 559 = .ok (.iadd, 1) := by decide +kernel
theorem dL_law_560 : decode cL_law 560 = .ok (.iaload, 1) := by decide +kernel
theorem dL_law_561 : decode cL_law 561 = .ok (.aload_n 0, 1) := by decide +kernel
theorem dL_law_562 : decode cL_law 562 = .ok (.iload_n 3, 1) := by decide +kernel
theorem dL_law_563 : decode cL_law 563 = .ok (.iconst 3, 1) := by decide +kernel
theorem dL_law_564 : decode cL_law 564 = .ok (.iadd, 1) := by decide +kernel
theorem dL_law_565 : decode cL_law 565 = .ok (.iaload, 1) := by decide +kernel
theorem dL_law_566 : decode cL_law 566 = .ok (.invokevirtual 69, 3) := by decide +kernel
theorem dL_law_569 : decode cL_law 569 = .ok (.aload_n 2, 1) := by decide +kernel
theorem dL_law_570 : decode cL_law 570 = .ok (.aload_n 0, 1) := by decide +kernel
theorem dL_law_571 : decode cL_law 571 = .ok (.iload_n 3, 1) := by decide +kernel
theorem dL_law_572 : decode cL_law 572 = .ok (.iconst 1, 1) := by decide +kernel
theorem dL_law_573 : decode cL_law 573 = .ok (.iadd, 1) := by decide +kernel
theorem dL_law_574 : decode cL_law 574 = .ok (.iaload, 1) := by decide +kernel
theorem dL_law_575 : decode cL_law 575 = .ok (.aload_n 0, 1) := by decide +kernel
theorem dL_law_576 : decode cL_law 576 = .ok (.iload_n 3, 1) := by decide +kernel
theorem dL_law_577 : decode cL_law 577 = .ok (.iconst 2, 1) := by decide +kernel
theorem dL_law_578 : decode cL_law 578 = .ok (.iadd, 1) := by decide +kernel
theorem dL_law_579 : decode cL_law 579 = .ok (.iaload, 1) := by decide +kernel
theorem dL_law_580 : decode cL_law 580 = .ok (.aload_n 0, 1) := by decide +kernel
theorem dL_law_581 : decode cL_law 581 = .ok (.iload_n 3, 1) := by decide +kernel
theorem dL_law_582 : decode cL_law 582 = .ok (.iconst 3, 1) := by decide +kernel
theorem dL_law_583 : decode cL_law 583 = .ok (.iadd, 1) := by decide +kernel
theorem dL_law_584 : decode cL_law 584 = .ok (.iaload, 1) := by decide +kernel
theorem dL_law_585 : decode cL_law 585 = .ok (.invokevirtual 73, 3) := by decide +kernel
theorem dL_law_588 : decode cL_law 588 = .ok (.lcmp, 1) := by decide +kernel
theorem dL_law_589 : decode cL_law 589 = .ok (.ifCond .eq 135, 3) := by decide +kernel
theorem dL_law_592 : decode cL_law 592 = .ok (.iconst 0, 1) := by decide +kernel
theorem dL_law_593 : decode cL_law 593 = .ok (.ireturn, 1) := by decide +kernel
theorem dL_law_594 : decode cL_law 594 = .ok (.aload_n 1, 1) := by decide +kernel
theorem dL_law_595 : decode cL_law 595 = .ok (.aload_n 0, 1) := by decide +kernel
theorem dL_law_596 : decode cL_law 596 = .ok (.iload_n 3, 1) := by decide +kernel
theorem dL_law_597 : decode cL_law 597 = .ok (.iconst 1, 1) := by decide +kernel
theorem dL_law_598 : decode cL_law 598 = .ok (.iadd, 1) := by decide +kernel
theorem dL_law_599 : decode cL_law 599 = .ok (.iaload, 1) := by decide +kernel
theorem dL_law_600 : decode cL_law 600 = .ok (.aload_n 0, 1) := by decide +kernel
theorem dL_law_601 : decode cL_law 601 = .ok (.iload_n 3, 1) := by decide +kernel
theorem dL_law_602 : decode cL_law 602 = .ok (.iconst 2, 1) := by decide +kernel
theorem dL_law_603 : decode cL_law 603 = .ok (.iadd, 1) := by decide +kernel
theorem dL_law_604 : decode cL_law 604 = .ok (.iaload, 1) := by decide +kernel
theorem dL_law_605 : decode cL_law 605 = .ok (.aload_n 0, 1) := by decide +kernel
theorem dL_law_606 : decode cL_law 606 = .ok (.iload_n 3, 1) := by decide +kernel
theorem dL_law_607 : decode cL_law 607 = .ok (.iconst 3, 1) := by decide +kernel
theorem dL_law_608 : decode cL_law 608 = .ok (.iadd, 1) := by decide +kernel
theorem dL_law_609 : decode cL_law 609 = .ok (.iaload, 1) := by decide +kernel
theorem dL_law_610 : decode cL_law 610 = .ok (.aload_n 0, 1) := by decide +kernel
theorem dL_law_611 : decode cL_law 611 = .ok (.iload_n 3, 1) := by decide +kernel
theorem dL_law_612 : decode cL_law 612 = .ok (.iconst 4, 1) := by decide +kernel
theorem dL_law_613 : decode cL_law 613 = .ok (.iadd, 1) := by decide +kernel
theorem dL_law_614 : decode cL_law 614 = .ok (.iaload, 1) := by decide +kernel
theorem dL_law_615 : decode cL_law 615 = .ok (.invokevirtual 74, 3) := by decide +kernel
theorem dL_law_618 : decode cL_law 618 = .ok (.aload_n 2, 1) := by decide +kernel
theorem dL_law_619 : decode cL_law 619 = .ok (.aload_n 0, 1) := by decide +kernel
theorem dL_law_620 : decode cL_law 620 = .ok (.iload_n 3, 1) := by decide +kernel
theorem dL_law_621 : decode cL_law 621 = .ok (.iconst 1, 1) := by decide +kernel
theorem dL_law_622 : decode cL_law 622 = .ok (.iadd, 1) := by decide +kernel
theorem dL_law_623 : decode cL_law 623 = .ok (.iaload, 1) := by decide +kernel
theorem dL_law_624 : decode cL_law 624 = .ok (.aload_n 0, 1) := by decide +kernel
theorem dL_law_625 : decode cL_law 625 = .ok (.iload_n 3, 1) := by decide +kernel
theorem dL_law_626 : decode cL_law 626 = .ok (.iconst 2, 1) := by decide +kernel
theorem dL_law_627 : decode cL_law 627 = .ok (.iadd, 1) := by decide +kernel
theorem dL_law_628 : decode cL_law 628 = .ok (.iaload, 1) := by decide +kernel
theorem dL_law_629 : decode cL_law 629 = .ok (.aload_n 0, 1) := by decide +kernel
theorem dL_law_630 : decode cL_law 630 = .ok (.iload_n 3, 1) := by decide +kernel
theorem dL_law_631 : decode cL_law 631 = .ok (.iconst 3, 1) := by decide +kernel
theorem dL_law_632 : decode cL_law 632 = .ok (.iadd, 1) := by decide +kernel
theorem dL_law_633 : decode cL_law 633 = .ok (.iaload, 1) := by decide +kernel
theorem dL_law_634 : decode cL_law 634 = .ok (.aload_n 0, 1) := by decide +kernel
theorem dL_law_635 : decode cL_law 635 = .ok (.iload_n 3, 1) := by decide +kernel
theorem dL_law_636 : decode cL_law 636 = .ok (.iconst 4, 1) := by decide +kernel
theorem dL_law_637 : decode cL_law 637 = .ok (.iadd, 1) := by decide +kernel
theorem dL_law_638 : decode cL_law 638 = .ok (.iaload, 1) := by decide +kernel
theorem dL_law_639 : decode cL_law 639 = .ok (.invokevirtual 78, 3) := by decide +kernel
theorem dL_law_642 : decode cL_law 642 = .ok (.if_icmp .eq 82, 3) := by decide +kernel
theorem dL_law_645 : decode cL_law 645 = .ok (.iconst 0, 1) := by decide +kernel
theorem dL_law_646 : decode cL_law 646 = .ok (.ireturn, 1) := by decide +kernel
theorem dL_law_647 : decode cL_law 647 = .ok (.aload_n 1, 1) := by decide +kernel
theorem dL_law_648 : decode cL_law 648 = .ok (.aload_n 0, 1) := by decide +kernel
theorem dL_law_649 : decode cL_law 649 = .ok (.iload_n 3, 1) := by decide +kernel
theorem dL_law_650 : decode cL_law 650 = .ok (.iconst 1, 1) := by decide +kernel
theorem dL_law_651 : decode cL_law 651 = .ok (.iadd, 1) := by decide +kernel
theorem dL_law_652 : decode cL_law 652 = .ok (.iaload, 1) := by decide +kernel
theorem dL_law_653 : decode cL_law 653 = .ok (.aload_n 0, 1) := by decide +kernel
theorem dL_law_654 : decode cL_law 654 = .ok (.iload_n 3, 1) := by decide +kernel
theorem dL_law_655 : decode cL_law 655 = .ok (.iconst 2, 1) := by decide +kernel
theorem dL_law_656 : decode cL_law 656 = .ok (.iadd, 1) := by decide +kernel
theorem dL_law_657 : decode cL_law 657 = .ok (.iaload, 1) := by decide +kernel
theorem dL_law_658 : decode cL_law 658 = .ok (.aload_n 0, 1) := by decide +kernel
theorem dL_law_659 : decode cL_law 659 = .ok (.iload_n 3, 1) := by decide +kernel
theorem dL_law_660 : decode cL_law 660 = .ok (.iconst 3, 1) := by decide +kernel
theorem dL_law_661 : decode cL_law 661 = .ok (.iadd, 1) := by decide +kernel
theorem dL_law_662 : decode cL_law 662 = .ok (.iaload, 1) := by decide +kernel
theorem dL_law_663 : decode cL_law 663 = .ok (.aload_n 0, 1) := by decide +kernel
theorem dL_law_664 : decode cL_law 664 = .ok (.iload_n 3, 1) := by decide +kernel
theorem dL_law_665 : decode cL_law 665 = .ok (.iconst 4, 1) := by decide +kernel
theorem dL_law_666 : decode cL_law 666 = .ok (.iadd, 1) := by decide +kernel
theorem dL_law_667 : decode cL_law 667 = .ok (.iaload, 1) := by decide +kernel
theorem dL_law_668 : decode cL_law 668 = .ok (.invokevirtual 79, 3) := by decide +kernel
theorem dL_law_671 : decode cL_law 671 = .ok (.aload_n 2, 1) := by decide +kernel
theorem dL_law_672 : decode cL_law 672 = .ok (.aload_n 0, 1) := by decide +kernel
theorem dL_law_673 : decode cL_law 673 = .ok (.iload_n 3, 1) := by decide +kernel
theorem dL_law_674 : decode cL_law 674 = .ok (.iconst 1, 1) := by decide +kernel
theorem dL_law_675 : decode cL_law 675 = .ok (.iadd, 1) := by decide +kernel
theorem dL_law_676 : decode cL_law 676 = .ok (.iaload, 1) := by decide +kernel
theorem dL_law_677 : decode cL_law 677 = .ok (.aload_n 0, 1) := by decide +kernel
theorem dL_law_678 : decode cL_law 678 = .ok (.iload_n 3, 1) := by decide +kernel
theorem dL_law_679 : decode cL_law 679 = .ok (.iconst 2, 1) := by decide +kernel
theorem dL_law_680 : decode cL_law 680 = .ok (.iadd, 1) := by decide +kernel
theorem dL_law_681 : decode cL_law 681 = .ok (.iaload, 1) := by decide +kernel
theorem dL_law_682 : decode cL_law 682 = .ok (.aload_n 0, 1) := by decide +kernel
theorem dL_law_683 : decode cL_law 683 = .ok (.iload_n 3, 1) := by decide +kernel
theorem dL_law_684 : decode cL_law 684 = .ok (.iconst 3, 1) := by decide +kernel
theorem dL_law_685 : decode cL_law 685 = .ok (.iadd, 1) := by decide +kernel
theorem dL_law_686 : decode cL_law 686 = .ok (.iaload, 1) := by decide +kernel
theorem dL_law_687 : decode cL_law 687 = .ok (.aload_n 0, 1) := by decide +kernel
theorem dL_law_688 : decode cL_law 688 = .ok (.iload_n 3, 1) := by decide +kernel
theorem dL_law_689 : decode cL_law 689 = .ok (.iconst 4, 1) := by decide +kernel
theorem dL_law_690 : decode cL_law 690 = .ok (.iadd, 1) := by decide +kernel
theorem dL_law_691 : decode cL_law 691 = .ok (.iaload, 1) := by decide +kernel
theorem dL_law_692 : decode cL_law 692 = .ok (.invokevirtual 82, 3) := by decide +kernel
theorem dL_law_695 : decode cL_law 695 = .ok (.lcmp, 1) := by decide +kernel
theorem dL_law_696 : decode cL_law 696 = .ok (.ifCond .eq 28, 3) := by decide +kernel
theorem dL_law_699 : decode cL_law 699 = .ok (.iconst 0, 1) := by decide +kernel
theorem dL_law_700 : decode cL_law 700 = .ok (.ireturn, 1) := by decide +kernel
theorem dL_law_701 : decode cL_law 701 = .ok (.aload_n 1, 1) := by decide +kernel
theorem dL_law_702 : decode cL_law 702 = .ok (.aload_n 0, 1) := by decide +kernel
theorem dL_law_703 : decode cL_law 703 = .ok (.iload_n 3, 1) := by decide +kernel
theorem dL_law_704 : decode cL_law 704 = .ok (.iconst 1, 1) := by decide +kernel
theorem dL_law_705 : decode cL_law 705 = .ok (.iadd, 1) := by decide +kernel
theorem dL_law_706 : decode cL_law 706 = .ok (.iaload, 1) := by decide +kernel
theorem dL_law_707 : decode cL_law 707 = .ok (.invokevirtual 83, 3) := by decide +kernel
theorem dL_law_710 : decode cL_law 710 = .ok (.aload_n 2, 1) := by decide +kernel
theorem dL_law_711 : decode cL_law 711 = .ok (.aload_n 0, 1) := by decide +kernel
theorem dL_law_712 : decode cL_law 712 = .ok (.iload_n 3, 1) := by decide +kernel
theorem dL_law_713 : decode cL_law 713 = .ok (.iconst 1, 1) := by decide +kernel
theorem dL_law_714 : decode cL_law 714 = .ok (.iadd, 1) := by decide +kernel
theorem dL_law_715 : decode cL_law 715 = .ok (.iaload, 1) := by decide +kernel
theorem dL_law_716 : decode cL_law 716 = .ok (.invokevirtual 86, 3) := by decide +kernel
theorem dL_law_719 : decode cL_law 719 = .ok (.if_icmp .eq 5, 3) := by decide +kernel
theorem dL_law_722 : decode cL_law 722 = .ok (.iconst 0, 1) := by decide +kernel
theorem dL_law_723 : decode cL_law 723 = .ok (.ireturn, 1) := by decide +kernel
theorem dL_law_724 : decode cL_law 724 = .ok (.iinc 3 7, 3) := by decide +kernel
theorem dL_law_727 : decode cL_law 727 = .ok (.goto (-709), 3) := by decide +kernel
theorem dL_law_730 : decode cL_law 730 = .ok (.iconst 1, 1) := by decide +kernel
theorem dL_law_731 : decode cL_law 731 = .ok (.ireturn, 1) := by decide +kernel
end
section

/-! THE PURE MACHINE: whole numbers stand for ints and longs (by their residues), cells bear numbers -/
abbrev vwCl : List vw_C := [(RX0, TX0, 12), (RX1, TX1, 4), (RX2, TX2, 2), (RX3, TX3, 2), (RX4, TX4, 8), (RX5, TX5, 7), (RX6, TX6, 18)]
abbrev PV : Type := Int ⊕ Int ⊕ Option Nat
abbrev PK : Type := (Nat × Nat × (Nat → Int)) ⊕ (Nat × Nat × (Nat → Option Nat)) ⊕ (Nat × List PV)
abbrev HP : Type := Nat → PK
abbrev vI (z : Int) : PV := Sum.inl z
abbrev vL (z : Int) : PV := Sum.inr (Sum.inl z)
abbrev vQ (r : Option Nat) : PV := Sum.inr (Sum.inr r)
abbrev vR (r : Nat) : PV := Sum.inr (Sum.inr (some r))
abbrev kI (n : Nat) (f : Nat → Int) : PK := Sum.inl (0, n, f)
abbrev kJ (n : Nat) (f : Nat → Int) : PK := Sum.inl (1, n, f)
abbrev kZ (n : Nat) (f : Nat → Int) : PK := Sum.inl (2, n, f)
abbrev kQ (k n : Nat) (f : Nat → Option Nat) : PK := Sum.inr (Sum.inl (k, n, f))
abbrev kO (c : Nat) (fs : List PV) : PK := Sum.inr (Sum.inr (c, fs))
def pm_v (ad : Nat → Nat) (v : PV) : Value := match v with
  | Sum.inl z => .int (Int32.ofInt z)
  | Sum.inr (Sum.inl z) => .long (Int64.ofInt z)
  | Sum.inr (Sum.inr r) => va_rf (r.map ad)
def pm_c (dA : Nat → ClassId) (ad : Nat → Nat) (c : PK) : va_E := match c with
  | Sum.inl (k, n, f) => .inl (dA k, n, if k = 1 then .inr (.inl (fun j => Int64.ofInt (f j))) else .inl (fun j => Int32.ofInt (f j)))
  | Sum.inr (Sum.inl (k, n, f)) => .inl (dA (k + 3), n, .inr (.inr (.inr (.inr (fun j => (f j).map ad)))))
  | Sum.inr (Sum.inr (c, fs)) => .inr (c, fs.map (pm_v ad))
def pm_w (dA : Nat → ClassId) (ad : Nat → Nat) (n : Nat) (h : HP) : va_W := (List.range n).map fun k => (ad k, pm_c dA ad (h k))
abbrev pm_T (dA : Nat → ClassId) : List (ClassId × FieldType) := [(dA 0, .int), (dA 1, .long), (dA 2, .boolean), (dA 3, .object RX4), (dA 4, .object RX2), (dA 5, .array .int), (dA 6, .array .long)]
theorem pm_w_at {dA : Nat → ClassId} {ad : Nat → Nat} {n : Nat} {h : HP} {k : Nat} (hk : k < n) : (pm_w dA ad n h)[k]? = some (ad k, pm_c dA ad (h k)) := by
  simp [pm_w, hk]
theorem pm_w_set {dA : Nat → ClassId} {ad : Nat → Nat} {n : Nat} {h : HP} {k : Nat} (hk : k < n) (c : PK) : (pm_w dA ad n h).set k (ad k, pm_c dA ad c) = pm_w dA ad n (va_up h k c) := by
  apply List.ext_getElem?
  intro i
  by_cases hi : i = k
  · subst hi
    rw [List.getElem?_set_self (by simpa [pm_w] using hk), pm_w_at hk, va_up_self]
  · rw [List.getElem?_set_ne (Ne.symm hi)]
    by_cases h2 : i < n
    · rw [pm_w_at h2, pm_w_at h2, va_up_ne _ _ hi]
    · rw [List.getElem?_eq_none (by simp [pm_w]; omega), List.getElem?_eq_none (by simp [pm_w]; omega)]
theorem pm_w_push {dA : Nat → ClassId} {ad : Nat → Nat} {n : Nat} {h : HP} (q : Nat) (c : PK) (hc : ∀ k, k < n → pm_c dA (va_up ad n q) (h k) = pm_c dA ad (h k)) (hc2 : pm_c dA (va_up ad n q) c = pm_c dA ad c) : pm_w dA ad n h ++ [(q, pm_c dA ad c)] = pm_w dA (va_up ad n q) (n + 1) (va_up h n c) := by
  unfold pm_w
  rw [List.range_succ, List.map_append]
  congr 1
  · apply List.map_congr_left
    intro k hk
    have hk2 : k < n := List.mem_range.mp hk
    rw [va_up_ne _ _ (show k ≠ n by omega), va_up_ne _ _ (show k ≠ n by omega), hc k hk2]
  · simp [va_up_self, hc2]
theorem pm_w_congr {dA : Nat → ClassId} {ad : Nat → Nat} {n : Nat} {h h' : HP} (hh : ∀ k, k < n → h k = h' k) : pm_w dA ad n h = pm_w dA ad n h' := by
  unfold pm_w
  apply List.map_congr_left
  intro k hk
  rw [hh k (List.mem_range.mp hk)]
theorem pm_w_adcongr {dA : Nat → ClassId} {ad ad' : Nat → Nat} {n : Nat} {h : HP} (h1 : ∀ k, k < n → ad k = ad' k) (hc : ∀ k, k < n → pm_c dA ad (h k) = pm_c dA ad' (h k)) : pm_w dA ad n h = pm_w dA ad' n h := by
  unfold pm_w
  apply List.map_congr_left
  intro k hk
  rw [h1 k (List.mem_range.mp hk), hc k (List.mem_range.mp hk)]
/-- the words of the tables that every method keeps -/
def tbw : List Cond := lw_tbl.filter goodWord
theorem tb_good {w : Cond} (h : w ∈ tbw) : (w.onTables && w.keeps) = true ∨ ∃ ty, w = .arrayClass ty := good_of_word (List.mem_filter.mp h).2
theorem tb_in {w : Cond} (h : w ∈ lw_tbl) (hg : goodWord w = true) : w ∈ tbw := List.mem_filter.mpr ⟨h, hg⟩
theorem va_AOA.moved {ty : FieldType} {u U : State} (hvm : u.vm.Alike U.vm) (h : va_AOA ty u) : va_AOA ty U := Jvm.Stand.arrayOver_alikeB hvm h
/-- the classes and the array classes, as the tables have them -/
def pm_K (D : va_G) (dA : Nat → ClassId) (U : State) : Prop := va_K D vwCl (pm_T dA) U ∧ va_AO RX4 U ∧ va_AO RX2 U ∧ va_AOA .int U ∧ va_AOA .long U
theorem pm_K.moved {D : va_G} {dA : Nat → ClassId} {u U : State} (hvm : u.vm.Alike U.vm) (h : pm_K D dA u) : pm_K D dA U := ⟨va_K.moved hvm h.1, va_AO.moved hvm h.2.1, va_AO.moved hvm h.2.2.1, va_AOA.moved hvm h.2.2.2.1, va_AOA.moved hvm h.2.2.2.2⟩
/-! locals -/
def lk : List (Option PV) → Nat → Option PV
  | [], _ => none
  | a :: _, 0 => a
  | _ :: r, i + 1 => lk r i
def ps : List (Option PV) → Nat → Option PV → List (Option PV)
  | [], _, _ => []
  | _ :: r, 0, o => o :: r
  | a :: r, i + 1, o => a :: ps r i o
def pcl (ls : List (Option PV)) (i : Nat) : List (Option PV) := match i with
  | 0 => ls
  | k + 1 => match lk ls k with
    | some (Sum.inr (Sum.inl _)) => ps ls k none
    | _ => ls
def s1 (ls : List (Option PV)) (i : Nat) (v : PV) : List (Option PV) := ps (pcl ls i) i (some v)
def s2 (ls : List (Option PV)) (i : Nat) (v : PV) : List (Option PV) := ps (ps (pcl ls i) i (some v)) (i + 1) none
theorem lk_ps : ∀ {ls : List (Option PV)} {i : Nat} {o : Option PV} {j : Nat} {v : PV}, lk (ps ls i o) j = some v → (j = i ∧ o = some v) ∨ (j ≠ i ∧ lk ls j = some v)
  | [], i, o, j, v, h => by simp [ps, lk] at h
  | a :: r, 0, o, 0, v, h => Or.inl ⟨rfl, h⟩
  | a :: r, 0, o, j + 1, v, h => Or.inr ⟨by omega, h⟩
  | a :: r, i + 1, o, 0, v, h => Or.inr ⟨by omega, h⟩
  | a :: r, i + 1, o, j + 1, v, h => by
    rcases lk_ps (ls := r) (i := i) (j := j) h with ⟨e, h1⟩ | ⟨e, h1⟩
    · exact Or.inl ⟨by omega, h1⟩
    · exact Or.inr ⟨by omega, h1⟩
theorem lk_lt : ∀ {ls : List (Option PV)} {i : Nat} {v : PV}, lk ls i = some v → i < ls.length
  | [], i, v, h => by simp [lk] at h
  | a :: r, 0, v, h => by simp
  | a :: r, i + 1, v, h => by
    have := lk_lt (ls := r) (i := i) h
    simp; omega
theorem lk_pcl {ls : List (Option PV)} {i j : Nat} {v : PV} (h : lk (pcl ls i) j = some v) : lk ls j = some v ∧ (j + 1 = i → ∀ z, v ≠ vL z) := by
  cases i with
  | zero => exact ⟨h, fun e => by omega⟩
  | succ k =>
    unfold pcl at h
    simp only at h
    split at h
    · rename_i z hz
      rcases lk_ps h with ⟨-, e⟩ | ⟨e, h1⟩
      · cases e
      · exact ⟨h1, fun e2 => absurd (by omega) e⟩
    · rename_i hz
      refine ⟨h, fun e z hv => ?_⟩
      have e2 : j = k := by omega
      subst e2
      exact hz z (by rw [h, hv])
def pm_l (ad : Nat → Nat) (ls : List (Option PV)) : List (Nat × Value) := (List.range ls.length).filterMap fun i => (lk ls i).map fun v => (i, pm_v ad v)
theorem pm_l_in {ad : Nat → Nat} {ls : List (Option PV)} {i : Nat} {v : PV} (h : lk ls i = some v) : (i, pm_v ad v) ∈ pm_l ad ls :=
  List.mem_filterMap.mpr ⟨i, List.mem_range.mpr (lk_lt h), by rw [h]; rfl⟩
theorem pm_l_of {ad : Nat → Nat} {ls : List (Option PV)} {q : Nat × Value} (h : q ∈ pm_l ad ls) : ∃ v, lk ls q.1 = some v ∧ q.2 = pm_v ad v := by
  obtain ⟨i, -, h2⟩ := List.mem_filterMap.mp h
  cases hl : lk ls i with
  | none => rw [hl] at h2; cases h2
  | some v =>
    rw [hl] at h2
    cases h2
    exact ⟨v, hl, rfl⟩
def lvs (ad : Nat → Nat) (A : Array Slot) (nL : Nat) (ls : List (Option PV)) : Prop := A.size = nL ∧ lv_wf A ∧ ∀ i v, lk ls i = some v → A[i]? = some (.val (pm_v ad v))
theorem lvs_has {ad : Nat → Nat} {A : Array Slot} {nL : Nat} {ls : List (Option PV)} (h : lvs ad A nL ls) : lv_has A nL (pm_l ad ls) :=
  ⟨h.1, h.2.1, fun q hq => by
    obtain ⟨v, h1, h2⟩ := pm_l_of hq
    rw [h.2.2 q.1 v h1, h2]⟩
theorem pm_cat {ad : Nat → Nat} {v : PV} (h : ∀ z, v ≠ vL z) : ((pm_v ad v).category == 2) = false := by
  rcases v with z | z | r
  · rfl
  · exact absurd rfl (h z)
  · cases r <;> rfl
theorem lvs_s1 {ad : Nat → Nat} {A : Array Slot} {nL i : Nat} {ls : List (Option PV)} {v : PV} (h : lv_has A nL ((i, pm_v ad v) :: (pm_l ad ls).filter (fun q => !(q.1 == i) && !(q.1 + 1 == i && q.2.category == 2)))) : lvs ad A nL (s1 ls i v) := by
  refine ⟨h.1, h.2.1, fun j w hj => ?_⟩
  rcases lk_ps hj with ⟨e, e2⟩ | ⟨hne, hj⟩
  · cases e2
    rw [e]
    exact h.2.2 (i, _) List.mem_cons_self
  · obtain ⟨h1, h2⟩ := lk_pcl hj
    refine h.2.2 (j, pm_v ad w) (List.mem_cons_of_mem _ (List.mem_filter.mpr ⟨pm_l_in h1, ?_⟩))
    by_cases e : j + 1 = i
    · rw [pm_cat (h2 e)]
      simp [hne]
    · simp [hne, e]
theorem lvs_s2 {ad : Nat → Nat} {A : Array Slot} {nL i : Nat} {ls : List (Option PV)} {v : PV} (h : lv_has A nL ((i, pm_v ad v) :: (pm_l ad ls).filter (fun q => !(q.1 == i) && (!(q.1 == i + 1) && !(q.1 + 1 == i && q.2.category == 2))))) : lvs ad A nL (s2 ls i v) := by
  refine ⟨h.1, h.2.1, fun j w hj => ?_⟩
  rcases lk_ps hj with ⟨e, e2⟩ | ⟨hne2, hj⟩
  · cases e2
  rcases lk_ps hj with ⟨e, e2⟩ | ⟨hne, hj⟩
  · cases e2
    rw [e]
    exact h.2.2 (i, _) List.mem_cons_self
  · obtain ⟨h1, h2⟩ := lk_pcl hj
    refine h.2.2 (j, pm_v ad w) (List.mem_cons_of_mem _ (List.mem_filter.mpr ⟨pm_l_in h1, ?_⟩))
    by_cases e : j + 1 = i
    · rw [pm_cat (h2 e)]
      simp [hne, hne2]
    · simp [hne, hne2, e]
/-! the judgement -/
def Cx (y : MethodName) (cc : ByteArray) (nL : Nat) (rt : Option FieldType) (p : Program) (s : State) (m : MethodId) (args : Array Value) (meth : Method) (c : Code) : Prop :=
  p.tables.exec = Jvm.exec ∧ c.code = cc ∧ meth.sig.returnType = rt ∧ c.maxLocals = nL ∧ s.vm.findClass y.cls = some m.cls ∧ (∀ w ∈ tbw, w.before args s = true) ∧ meth.locks = false ∧ meth.name = y.name
abbrev EE : Type := State → (Nat → Prop) → Prop
abbrev ZZ : Type := List Frame → Array Value → State → va_G → (Nat → ClassId) → (Nat → Nat) → (Nat → Prop) → State → Prop
def Ev (l : Launch) (y : MethodName) (cc : ByteArray) (nL : Nat) (rt : Option FieldType) (R : Room) (E : EE) (Z : ZZ) (n0 pc : Nat) (ls : List (Option PV)) (st : List PV) (n ce sl : Nat) (h : HP) : Prop :=
  ∀ (p : Program) (e : Env) (s : State) (m : MethodId) (args : Array Value) (below : List Frame) (meth : Method) (c : Code), Cx y cc nL rt p s m args meth c →
  ∀ (D : va_G) (dA : Nat → ClassId) (ad0 ad : Nat → Nat) (A : Nat → Prop) (H : Heap) (locs : List Loc) (lsA : Array Slot),
    E s A → n0 ≤ n → (∀ k, k < n0 → ad k = ad0 k) → (n = n0 → ad = ad0) → pm_K D dA s → va_P D vwCl (pm_w dA ad n h) H → va_D A (pm_w dA ad n h) → va_S A s.heap H locs → (∀ q, s.heap.size ≤ q → A q) → lvs ad lsA nL ls →
    W p l e R s m args below meth c H locs ce sl (Z below args s D dA ad0 A) (F0 m pc lsA (st.map (pm_v ad)))
section EV
variable {l : Launch} {y : MethodName} {cc : ByteArray} {nL : Nat} {rt : Option FieldType} {R : Room} {E : EE} {Z : ZZ} {n0 pc : Nat} {ls : List (Option PV)} {st : List PV} {n ce sl : Nat} {h : HP}
theorem ev_congr {h' : HP} (hh : ∀ k, k < n → h k = h' k) (k : Ev l y cc nL rt R E Z n0 pc ls st n ce sl h') : Ev l y cc nL rt R E Z n0 pc ls st n ce sl h := by
  intro p e s m args below meth c C D dA ad0 ad A H locs lsA a0 a1 a2 a3 hK hP hD hS hA hl
  rw [pm_w_congr hh] at hP hD
  exact k p e s m args below meth c C D dA ad0 ad A H locs lsA a0 a1 a2 a3 hK hP hD hS hA hl
/-- a row that leaves heap and locals -/
theorem ev_STP {pc' : Nat} {st' : List PV} (hW : ∀ {p : Program} {e : Env} {s : State} {m : MethodId} {args : Array Value} {below : List Frame} {meth : Method} {c : Code} {H : Heap} {locs : List Loc} {Qf : State → Prop} {lsA : Array Slot} (ad : Nat → Nat), Cx y cc nL rt p s m args meth c → lvs ad lsA nL ls →
      W p l e R s m args below meth c H locs ce sl Qf (F0 m pc' lsA (st'.map (pm_v ad))) → W p l e R s m args below meth c H locs ce sl Qf (F0 m pc lsA (st.map (pm_v ad))))
    (k : Ev l y cc nL rt R E Z n0 pc' ls st' n ce sl h) : Ev l y cc nL rt R E Z n0 pc ls st n ce sl h := by
  intro p e s m args below meth c C D dA ad0 ad A H locs lsA a0 a1 a2 a3 hK hP hD hS hA hl
  exact hW ad C hl (k p e s m args below meth c C D dA ad0 ad A H locs lsA a0 a1 a2 a3 hK hP hD hS hA hl)
/-- a branch -/
theorem ev_BRN {P : Prop} {pt pf : Nat} {st' : List PV} (hW : ∀ {p : Program} {e : Env} {s : State} {m : MethodId} {args : Array Value} {below : List Frame} {meth : Method} {c : Code} {H : Heap} {locs : List Loc} {Qf : State → Prop} {lsA : Array Slot} (ad : Nat → Nat), Cx y cc nL rt p s m args meth c → lvs ad lsA nL ls →
      (P → W p l e R s m args below meth c H locs ce sl Qf (F0 m pt lsA (st'.map (pm_v ad)))) → (¬ P → W p l e R s m args below meth c H locs ce sl Qf (F0 m pf lsA (st'.map (pm_v ad)))) → W p l e R s m args below meth c H locs ce sl Qf (F0 m pc lsA (st.map (pm_v ad))))
    (kt : P → Ev l y cc nL rt R E Z n0 pt ls st' n ce sl h) (kf : ¬ P → Ev l y cc nL rt R E Z n0 pf ls st' n ce sl h) : Ev l y cc nL rt R E Z n0 pc ls st n ce sl h := by
  intro p e s m args below meth c C D dA ad0 ad A H locs lsA a0 a1 a2 a3 hK hP hD hS hA hl
  exact hW ad C hl (fun q => kt q p e s m args below meth c C D dA ad0 ad A H locs lsA a0 a1 a2 a3 hK hP hD hS hA hl) (fun q => kf q p e s m args below meth c C D dA ad0 ad A H locs lsA a0 a1 a2 a3 hK hP hD hS hA hl)
/-- a row that stores a local -/
theorem ev_LOC {pc' : Nat} {ls' : List (Option PV)} {st' : List PV} (hW : ∀ {p : Program} {e : Env} {s : State} {m : MethodId} {args : Array Value} {below : List Frame} {meth : Method} {c : Code} {H : Heap} {locs : List Loc} {Qf : State → Prop} {lsA : Array Slot} (ad : Nat → Nat), Cx y cc nL rt p s m args meth c → lvs ad lsA nL ls →
      (∀ lsB, lvs ad lsB nL ls' → W p l e R s m args below meth c H locs ce sl Qf (F0 m pc' lsB (st'.map (pm_v ad)))) → W p l e R s m args below meth c H locs ce sl Qf (F0 m pc lsA (st.map (pm_v ad))))
    (k : Ev l y cc nL rt R E Z n0 pc' ls' st' n ce sl h) : Ev l y cc nL rt R E Z n0 pc ls st n ce sl h := by
  intro p e s m args below meth c C D dA ad0 ad A H locs lsA a0 a1 a2 a3 hK hP hD hS hA hl
  exact hW ad C hl (fun lsB hB => k p e s m args below meth c C D dA ad0 ad A H locs lsB a0 a1 a2 a3 hK hP hD hS hA hB)
theorem pm_r32 {z : Int} (h : -2147483648 ≤ z ∧ z < 2147483648) : (Int32.ofInt z).toInt = z := Int32.toInt_ofInt_of_le (by omega) (by omega)
theorem pm_r64 {z : Int} (h : -9223372036854775808 ≤ z ∧ z < 9223372036854775808) : (Int64.ofInt z).toInt = z := Int64.toInt_ofInt_of_le (by omega) (by omega)
theorem pm_z32 : (0 : Int32).toInt = 0 := by decide

theorem ev_iconst {z : Int} (hd : decode cc pc = .ok (.iconst z, 1)) (k : Ev l y cc nL rt R E Z n0 (pc + 1) ls (vI z :: st) n ce sl h) : Ev l y cc nL rt R E Z n0 pc ls st n ce sl h :=
  ev_STP (fun ad C hl k => lv_iconst C.1 C.2.1 hd rfl k) k

theorem ev_bipush {z : Int} (hd : decode cc pc = .ok (.bipush z, 2)) (hz : (Int8.ofInt z).toInt32 = Int32.ofInt z := by decide) (k : Ev l y cc nL rt R E Z n0 (pc + 2) ls (vI z :: st) n ce sl h) : Ev l y cc nL rt R E Z n0 pc ls st n ce sl h :=
  ev_STP (fun ad C hl k => lv_bipush C.1 C.2.1 hd hz k) k

theorem ev_sipush {z : Int} (hd : decode cc pc = .ok (.sipush z, 3)) (hz : (Int16.ofInt z).toInt32 = Int32.ofInt z := by decide) (k : Ev l y cc nL rt R E Z n0 (pc + 3) ls (vI z :: st) n ce sl h) : Ev l y cc nL rt R E Z n0 pc ls st n ce sl h :=
  ev_STP (fun ad C hl k => lv_sipush C.1 C.2.1 hd hz k) k

theorem ev_lconst0 (hd : decode cc pc = .ok (.lconst 0, 1)) (k : Ev l y cc nL rt R E Z n0 (pc + 1) ls (vL 0 :: st) n ce sl h) : Ev l y cc nL rt R E Z n0 pc ls st n ce sl h :=
  ev_STP (fun ad C hl k => lv_lconst C.1 C.2.1 hd (by decide) k) k

theorem ev_lconst1 (hd : decode cc pc = .ok (.lconst 1, 1)) (k : Ev l y cc nL rt R E Z n0 (pc + 1) ls (vL 1 :: st) n ce sl h) : Ev l y cc nL rt R E Z n0 pc ls st n ce sl h :=
  ev_STP (fun ad C hl k => lv_lconst C.1 C.2.1 hd (by decide) k) k

theorem ev_ldc {i : Nat} (z : Int) {w : Int32} (hw : Cond.constant y.cls i w ∈ tbw) (hd : decode cc pc = .ok (.ldc i, 2)) (hz : w = Int32.ofInt z := by decide) (k : Ev l y cc nL rt R E Z n0 (pc + 2) ls (vI z :: st) n ce sl h) : Ev l y cc nL rt R E Z n0 pc ls st n ce sl h :=
  ev_STP (fun ad C hl k => lv_ldc C.1 C.2.1 C.2.2.2.2.1 (hz ▸ C.2.2.2.2.2.1 _ hw) hd k) k

theorem ev_ldc2 {i : Nat} (z : Int) {w : Int64} (hw : Cond.constantLong y.cls i w ∈ tbw) (hd : decode cc pc = .ok (.ldc2_w i, 3)) (hz : w = Int64.ofInt z := by decide) (k : Ev l y cc nL rt R E Z n0 (pc + 3) ls (vL z :: st) n ce sl h) : Ev l y cc nL rt R E Z n0 pc ls st n ce sl h :=
  ev_STP (fun ad C hl k => lv_ldc2 C.1 C.2.1 C.2.2.2.2.1 (hz ▸ C.2.2.2.2.2.1 _ hw) hd k) k

theorem ev_iload_n {j : Fin 4} {x : Int} (hd : decode cc pc = .ok (.iload_n j, 1)) (hl : lk ls j = some (vI x)) (k : Ev l y cc nL rt R E Z n0 (pc + 1) ls (vI x :: st) n ce sl h) : Ev l y cc nL rt R E Z n0 pc ls st n ce sl h :=
  ev_STP (fun ad C hL k => lv_iload_n C.1 C.2.1 hd rfl (hL.2.2 _ _ hl) k) k

theorem ev_iload {j : Nat} {x : Int} (hd : decode cc pc = .ok (.iload j, 2)) (hl : lk ls j = some (vI x)) (k : Ev l y cc nL rt R E Z n0 (pc + 2) ls (vI x :: st) n ce sl h) : Ev l y cc nL rt R E Z n0 pc ls st n ce sl h :=
  ev_STP (fun ad C hL k => lv_iload C.1 C.2.1 hd (hL.2.2 _ _ hl) k) k

theorem ev_lload_n {j : Fin 4} {x : Int} (hd : decode cc pc = .ok (.lload_n j, 1)) (hl : lk ls j = some (vL x)) (k : Ev l y cc nL rt R E Z n0 (pc + 1) ls (vL x :: st) n ce sl h) : Ev l y cc nL rt R E Z n0 pc ls st n ce sl h :=
  ev_STP (fun ad C hL k => lv_lload_n C.1 C.2.1 hd rfl (hL.2.2 _ _ hl) k) k

theorem ev_lload {j : Nat} {x : Int} (hd : decode cc pc = .ok (.lload j, 2)) (hl : lk ls j = some (vL x)) (k : Ev l y cc nL rt R E Z n0 (pc + 2) ls (vL x :: st) n ce sl h) : Ev l y cc nL rt R E Z n0 pc ls st n ce sl h :=
  ev_STP (fun ad C hL k => lv_lload C.1 C.2.1 hd (hL.2.2 _ _ hl) k) k

theorem ev_aload_n {j : Fin 4} {x : Nat} (hd : decode cc pc = .ok (.aload_n j, 1)) (hl : lk ls j = some (vR x)) (k : Ev l y cc nL rt R E Z n0 (pc + 1) ls (vR x :: st) n ce sl h) : Ev l y cc nL rt R E Z n0 pc ls st n ce sl h :=
  ev_STP (fun ad C hL k => lv_aload_n C.1 C.2.1 hd rfl (hL.2.2 _ _ hl) k) k

theorem ev_aload {j : Nat} {x : Nat} (hd : decode cc pc = .ok (.aload j, 2)) (hl : lk ls j = some (vR x)) (k : Ev l y cc nL rt R E Z n0 (pc + 2) ls (vR x :: st) n ce sl h) : Ev l y cc nL rt R E Z n0 pc ls st n ce sl h :=
  ev_STP (fun ad C hL k => lv_aload C.1 C.2.1 hd (hL.2.2 _ _ hl) k) k

theorem ev_istore_n {j : Fin 4} {x : Int} (hd : decode cc pc = .ok (.istore_n j, 1)) (hj : (j : Nat) < nL) (k : Ev l y cc nL rt R E Z n0 (pc + 1) (s1 ls (j : Nat) (vI x)) st n ce sl h) : Ev l y cc nL rt R E Z n0 pc ls (vI x :: st) n ce sl h :=
  ev_LOC (fun ad C hL k => lv_istore_n C.1 C.2.1 hd rfl (lvs_has hL) hj rfl (fun lsB hB => k lsB (lvs_s1 (v := vI x) hB))) k

theorem ev_istore {j : Nat} {x : Int} (hd : decode cc pc = .ok (.istore j, 2)) (hj : j < nL) (k : Ev l y cc nL rt R E Z n0 (pc + 2) (s1 ls j (vI x)) st n ce sl h) : Ev l y cc nL rt R E Z n0 pc ls (vI x :: st) n ce sl h :=
  ev_LOC (fun ad C hL k => lv_istore C.1 C.2.1 hd (lvs_has hL) hj rfl (fun lsB hB => k lsB (lvs_s1 (v := vI x) hB))) k

theorem ev_lstore_n {j : Fin 4} {x : Int} (hd : decode cc pc = .ok (.lstore_n j, 1)) (hj : (j : Nat) + 1 < nL) (k : Ev l y cc nL rt R E Z n0 (pc + 1) (s2 ls (j : Nat) (vL x)) st n ce sl h) : Ev l y cc nL rt R E Z n0 pc ls (vL x :: st) n ce sl h :=
  ev_LOC (fun ad C hL k => lv_lstore_n C.1 C.2.1 hd rfl (lvs_has hL) hj rfl (fun lsB hB => k lsB (lvs_s2 (v := vL x) hB))) k

theorem ev_lstore {j : Nat} {x : Int} (hd : decode cc pc = .ok (.lstore j, 2)) (hj : j + 1 < nL) (k : Ev l y cc nL rt R E Z n0 (pc + 2) (s2 ls j (vL x)) st n ce sl h) : Ev l y cc nL rt R E Z n0 pc ls (vL x :: st) n ce sl h :=
  ev_LOC (fun ad C hL k => lv_lstore C.1 C.2.1 hd (lvs_has hL) hj rfl (fun lsB hB => k lsB (lvs_s2 (v := vL x) hB))) k

theorem ev_astore_n {j : Fin 4} {x : Nat} (hd : decode cc pc = .ok (.astore_n j, 1)) (hj : (j : Nat) < nL) (k : Ev l y cc nL rt R E Z n0 (pc + 1) (s1 ls (j : Nat) (vR x)) st n ce sl h) : Ev l y cc nL rt R E Z n0 pc ls (vR x :: st) n ce sl h :=
  ev_LOC (fun ad C hL k => lv_astore_n C.1 C.2.1 hd rfl (lvs_has hL) hj rfl (fun lsB hB => k lsB (lvs_s1 (v := vR x) hB))) k

theorem ev_astore {j : Nat} {x : Nat} (hd : decode cc pc = .ok (.astore j, 2)) (hj : j < nL) (k : Ev l y cc nL rt R E Z n0 (pc + 2) (s1 ls j (vR x)) st n ce sl h) : Ev l y cc nL rt R E Z n0 pc ls (vR x :: st) n ce sl h :=
  ev_LOC (fun ad C hL k => lv_astore C.1 C.2.1 hd (lvs_has hL) hj rfl (fun lsB hB => k lsB (lvs_s1 (v := vR x) hB))) k

theorem ev_iinc {j : Nat} {x z : Int} (hd : decode cc pc = .ok (.iinc j z, 3)) (hl : lk ls j = some (vI x)) (hj : j < nL) (k : Ev l y cc nL rt R E Z n0 (pc + 3) (s1 ls j (vI (x + z))) st n ce sl h) : Ev l y cc nL rt R E Z n0 pc ls st n ce sl h :=
  ev_LOC (fun ad C hL k => by
    obtain ⟨i, hi⟩ := List.getElem?_of_mem (pm_l_in (ad := ad) hl)
    exact lv_iinc C.1 C.2.1 hd (lvs_has hL) (k := i) hi (v := Int32.ofInt (x + z)) (by rw [Int32.ofInt_add]) hj rfl (fun lsB hB => k lsB (lvs_s1 (v := vI (x + z)) hB))) k

theorem ev_iadd {a b : Int} (hd : decode cc pc = .ok (.iadd, 1)) (k : Ev l y cc nL rt R E Z n0 (pc + 1) ls (vI (a + b) :: st) n ce sl h) : Ev l y cc nL rt R E Z n0 pc ls (vI b :: vI a :: st) n ce sl h :=
  ev_STP (fun ad C hl k => lv_iadd C.1 C.2.1 hd (by rw [← Int32.ofInt_add]; exact k)) k

theorem ev_isub {a b : Int} (hd : decode cc pc = .ok (.isub, 1)) (k : Ev l y cc nL rt R E Z n0 (pc + 1) ls (vI (a - b) :: st) n ce sl h) : Ev l y cc nL rt R E Z n0 pc ls (vI b :: vI a :: st) n ce sl h :=
  ev_STP (fun ad C hl k => lv_isub C.1 C.2.1 hd (by rw [← Int32.ofInt_sub]; exact k)) k

theorem ev_imul {a b : Int} (hd : decode cc pc = .ok (.imul, 1)) (k : Ev l y cc nL rt R E Z n0 (pc + 1) ls (vI (a * b) :: st) n ce sl h) : Ev l y cc nL rt R E Z n0 pc ls (vI b :: vI a :: st) n ce sl h :=
  ev_STP (fun ad C hl k => lv_imul C.1 C.2.1 hd (by rw [← Int32.ofInt_mul]; exact k)) k

theorem ev_ladd {a b : Int} (hd : decode cc pc = .ok (.ladd, 1)) (k : Ev l y cc nL rt R E Z n0 (pc + 1) ls (vL (a + b) :: st) n ce sl h) : Ev l y cc nL rt R E Z n0 pc ls (vL b :: vL a :: st) n ce sl h :=
  ev_STP (fun ad C hl k => lv_ladd C.1 C.2.1 hd (by rw [← Int64.ofInt_add]; exact k)) k

theorem ev_lsub {a b : Int} (hd : decode cc pc = .ok (.lsub, 1)) (k : Ev l y cc nL rt R E Z n0 (pc + 1) ls (vL (a - b) :: st) n ce sl h) : Ev l y cc nL rt R E Z n0 pc ls (vL b :: vL a :: st) n ce sl h :=
  ev_STP (fun ad C hl k => lv_lsub C.1 C.2.1 hd (by rw [← Int64.ofInt_sub]; exact k)) k

theorem ev_lmul {a b : Int} (hd : decode cc pc = .ok (.lmul, 1)) (k : Ev l y cc nL rt R E Z n0 (pc + 1) ls (vL (a * b) :: st) n ce sl h) : Ev l y cc nL rt R E Z n0 pc ls (vL b :: vL a :: st) n ce sl h :=
  ev_STP (fun ad C hl k => lv_lmul C.1 C.2.1 hd (by rw [← Int64.ofInt_mul]; exact k)) k

theorem ev_lneg {a : Int} (hd : decode cc pc = .ok (.lneg, 1)) (k : Ev l y cc nL rt R E Z n0 (pc + 1) ls (vL (-a) :: st) n ce sl h) : Ev l y cc nL rt R E Z n0 pc ls (vL a :: st) n ce sl h :=
  ev_STP (fun ad C hl k => lv_lneg C.1 C.2.1 hd (by rw [← Int64.ofInt_neg]; exact k)) k

theorem pm_ne64 {z : Int} (h : -9223372036854775808 ≤ z ∧ z < 9223372036854775808) (h0 : z ≠ 0) : ¬ Int64.ofInt z = 0 := fun q => h0 (by have := congrArg Int64.toInt q; rw [pm_r64 h] at this; simpa using this)
theorem pm_ne32 {z : Int} (h : -2147483648 ≤ z ∧ z < 2147483648) (h0 : z ≠ 0) : ¬ Int32.ofInt z = 0 := fun q => h0 (by have := congrArg Int32.toInt q; rw [pm_r32 h] at this; simpa using this)
theorem pm_div64 {a b : Int} (ha : -9223372036854775808 ≤ a ∧ a < 9223372036854775808) (hb : -9223372036854775808 ≤ b ∧ b < 9223372036854775808) : Int64.ofInt a / Int64.ofInt b = Int64.ofInt (a.tdiv b) := (Int64.ofInt_tdiv (by rw [Int64.toInt_minValue]; omega) (by rw [Int64.toInt_maxValue]; omega) (by rw [Int64.toInt_minValue]; omega) (by rw [Int64.toInt_maxValue]; omega)).symm
theorem pm_div32 {a b : Int} (ha : -2147483648 ≤ a ∧ a < 2147483648) (hb : -2147483648 ≤ b ∧ b < 2147483648) : Int32.ofInt a / Int32.ofInt b = Int32.ofInt (a.tdiv b) := (Int32.ofInt_tdiv (by rw [Int32.toInt_minValue]; omega) (by rw [Int32.toInt_maxValue]; omega) (by rw [Int32.toInt_minValue]; omega) (by rw [Int32.toInt_maxValue]; omega)).symm
theorem pm_tm (a b : Int) : a - a.tdiv b * b = a.tmod b := by have := Int.tmod_add_tdiv_mul a b; omega

theorem ev_ldiv {a b : Int} (hd : decode cc pc = .ok (.ldiv, 1)) (ha : -9223372036854775808 ≤ a ∧ a < 9223372036854775808) (hb : -9223372036854775808 ≤ b ∧ b < 9223372036854775808) (h0 : b ≠ 0) (k : Ev l y cc nL rt R E Z n0 (pc + 1) ls (vL (a.tdiv b) :: st) n ce sl h) : Ev l y cc nL rt R E Z n0 pc ls (vL b :: vL a :: st) n ce sl h :=
  ev_STP (fun ad C hl k => lv_ldiv C.1 C.2.1 hd (pm_ne64 hb h0) (by rw [pm_div64 ha hb]; exact k)) k

theorem ev_lrem {a b : Int} (hd : decode cc pc = .ok (.lrem, 1)) (ha : -9223372036854775808 ≤ a ∧ a < 9223372036854775808) (hb : -9223372036854775808 ≤ b ∧ b < 9223372036854775808) (h0 : b ≠ 0) (k : Ev l y cc nL rt R E Z n0 (pc + 1) ls (vL (a.tmod b) :: st) n ce sl h) : Ev l y cc nL rt R E Z n0 pc ls (vL b :: vL a :: st) n ce sl h :=
  ev_STP (fun ad C hl k => lv_lrem C.1 C.2.1 hd (pm_ne64 hb h0) (by rw [pm_div64 ha hb, ← Int64.ofInt_mul, ← Int64.ofInt_sub, pm_tm]; exact k)) k

theorem ev_irem {a b : Int} (hd : decode cc pc = .ok (.irem, 1)) (ha : -2147483648 ≤ a ∧ a < 2147483648) (hb : -2147483648 ≤ b ∧ b < 2147483648) (h0 : b ≠ 0) (k : Ev l y cc nL rt R E Z n0 (pc + 1) ls (vI (a.tmod b) :: st) n ce sl h) : Ev l y cc nL rt R E Z n0 pc ls (vI b :: vI a :: st) n ce sl h :=
  ev_STP (fun ad C hl k => lv_irem C.1 C.2.1 hd (pm_ne32 hb h0) (by rw [pm_div32 ha hb, ← Int32.ofInt_mul, ← Int32.ofInt_sub, pm_tm]; exact k)) k

theorem ev_i2l {a : Int} (hd : decode cc pc = .ok (.i2l, 1)) (ha : -2147483648 ≤ a ∧ a < 2147483648) (k : Ev l y cc nL rt R E Z n0 (pc + 1) ls (vL a :: st) n ce sl h) : Ev l y cc nL rt R E Z n0 pc ls (vI a :: st) n ce sl h :=
  ev_STP (fun ad C hl k => lv_i2l C.1 C.2.1 hd (Int32.toInt64_ofInt (by rw [Int32.toInt_minValue]; omega) (by rw [Int32.toInt_maxValue]; omega)) k) k

theorem ev_l2i {a : Int} (hd : decode cc pc = .ok (.l2i, 1)) (k : Ev l y cc nL rt R E Z n0 (pc + 1) ls (vI a :: st) n ce sl h) : Ev l y cc nL rt R E Z n0 pc ls (vL a :: st) n ce sl h :=
  ev_STP (fun ad C hl k => lv_l2i C.1 C.2.1 hd Int64.toInt32_ofInt k) k

theorem ev_dup_I {a : Int} (hd : decode cc pc = .ok (.dup, 1)) (k : Ev l y cc nL rt R E Z n0 (pc + 1) ls (vI a :: vI a :: st) n ce sl h) : Ev l y cc nL rt R E Z n0 pc ls (vI a :: st) n ce sl h :=
  ev_STP (fun ad C hl k => lv_dup C.1 C.2.1 hd rfl k) k

theorem ev_dup_R {a : Nat} (hd : decode cc pc = .ok (.dup, 1)) (k : Ev l y cc nL rt R E Z n0 (pc + 1) ls (vR a :: vR a :: st) n ce sl h) : Ev l y cc nL rt R E Z n0 pc ls (vR a :: st) n ce sl h :=
  ev_STP (fun ad C hl k => lv_dup C.1 C.2.1 hd rfl k) k

theorem ev_dup2 {a : Int} {r : Nat} (hd : decode cc pc = .ok (.dup2, 1)) (k : Ev l y cc nL rt R E Z n0 (pc + 1) ls (vI a :: vR r :: vI a :: vR r :: st) n ce sl h) : Ev l y cc nL rt R E Z n0 pc ls (vI a :: vR r :: st) n ce sl h :=
  ev_STP (fun ad C hl k => lv_dup2_11 C.1 C.2.1 hd rfl rfl k) k

theorem ev_goto {off : Int} (tgt : Nat) (hd : decode cc pc = .ok (.goto off, 3)) (k : Ev l y cc nL rt R E Z n0 tgt ls st n ce sl h) (ht : (pc : Int) + off = (tgt : Int) := by decide) : Ev l y cc nL rt R E Z n0 pc ls st n ce sl h :=
  ev_STP (fun ad C hl k => lv_goto C.1 C.2.1 hd ht k) k

theorem pm_eq32 {x y : Int} (hx : -2147483648 ≤ x ∧ x < 2147483648) (hy : -2147483648 ≤ y ∧ y < 2147483648) : Int32.ofInt x = Int32.ofInt y ↔ x = y := ⟨fun q => by have := congrArg Int32.toInt q; rwa [pm_r32 hx, pm_r32 hy] at this, fun q => by rw [q]⟩
theorem pm_lt32 {x y : Int} (hx : -2147483648 ≤ x ∧ x < 2147483648) (hy : -2147483648 ≤ y ∧ y < 2147483648) : Int32.ofInt x < Int32.ofInt y ↔ x < y := by rw [Int32.lt_iff_toInt_lt, pm_r32 hx, pm_r32 hy]
theorem pm_le32 {x y : Int} (hx : -2147483648 ≤ x ∧ x < 2147483648) (hy : -2147483648 ≤ y ∧ y < 2147483648) : Int32.ofInt x ≤ Int32.ofInt y ↔ x ≤ y := by rw [Int32.le_iff_toInt_le, pm_r32 hx, pm_r32 hy]
theorem pm_eq64 {x y : Int} (hx : -9223372036854775808 ≤ x ∧ x < 9223372036854775808) (hy : -9223372036854775808 ≤ y ∧ y < 9223372036854775808) : Int64.ofInt x = Int64.ofInt y ↔ x = y := ⟨fun q => by have := congrArg Int64.toInt q; rwa [pm_r64 hx, pm_r64 hy] at this, fun q => by rw [q]⟩
theorem pm_lt64 {x y : Int} (hx : -9223372036854775808 ≤ x ∧ x < 9223372036854775808) (hy : -9223372036854775808 ≤ y ∧ y < 9223372036854775808) : Int64.ofInt x < Int64.ofInt y ↔ x < y := by rw [Int64.lt_iff_toInt_lt, pm_r64 hx, pm_r64 hy]
theorem pm_le64 {x y : Int} (hx : -9223372036854775808 ≤ x ∧ x < 9223372036854775808) (hy : -9223372036854775808 ≤ y ∧ y < 9223372036854775808) : Int64.ofInt x ≤ Int64.ofInt y ↔ x ≤ y := by rw [Int64.le_iff_toInt_le, pm_r64 hx, pm_r64 hy]
theorem pm_o0 : (0 : Int32) = Int32.ofInt 0 := by decide
theorem pm_00 : (-2147483648 : Int) ≤ 0 ∧ (0 : Int) < 2147483648 := by decide

theorem ev_if_eq {off : Int} (tgt : Nat) {x : Int} (hd : decode cc pc = .ok (.ifCond .eq off, 3)) (hx : -2147483648 ≤ x ∧ x < 2147483648) (kt : x = 0 → Ev l y cc nL rt R E Z n0 tgt ls st n ce sl h) (kf : ¬ (x = 0) → Ev l y cc nL rt R E Z n0 (pc + 3) ls st n ce sl h) (ht : (pc : Int) + off = (tgt : Int) := by decide) : Ev l y cc nL rt R E Z n0 pc ls (vI x :: st) n ce sl h :=
  ev_BRN (P := x = 0) (fun ad C hl kt kf => lv_if_eq C.1 C.2.1 hd ht (by rw [pm_o0]; exact (fun q => kt ((pm_eq32 hx pm_00).mp q))) (by rw [pm_o0]; exact (fun q => kf (fun e => q ((pm_eq32 hx pm_00).mpr e))))) kt kf

theorem ev_icmp_eq {off : Int} (tgt : Nat) {x z : Int} (hd : decode cc pc = .ok (.if_icmp .eq off, 3)) (hx : -2147483648 ≤ x ∧ x < 2147483648) (hy : -2147483648 ≤ z ∧ z < 2147483648) (kt : x = z → Ev l y cc nL rt R E Z n0 tgt ls st n ce sl h) (kf : ¬ (x = z) → Ev l y cc nL rt R E Z n0 (pc + 3) ls st n ce sl h) (ht : (pc : Int) + off = (tgt : Int) := by decide) : Ev l y cc nL rt R E Z n0 pc ls (vI z :: vI x :: st) n ce sl h :=
  ev_BRN (P := x = z) (fun ad C hl kt kf => lv_icmp_eq C.1 C.2.1 hd ht (fun q => kt ((pm_eq32 hx hy).mp q)) (fun q => kf (fun e => q ((pm_eq32 hx hy).mpr e)))) kt kf

theorem ev_lcmp_eq {off : Int} (tgt : Nat) {x z : Int} (hd0 : decode cc pc = .ok (.lcmp, 1)) (hd : decode cc (pc + 1) = .ok (.ifCond .eq off, 3)) (hx : -9223372036854775808 ≤ x ∧ x < 9223372036854775808) (hy : -9223372036854775808 ≤ z ∧ z < 9223372036854775808) (kt : x = z → Ev l y cc nL rt R E Z n0 tgt ls st n ce sl h) (kf : ¬ (x = z) → Ev l y cc nL rt R E Z n0 (pc + 1 + 3) ls st n ce sl h) (ht : ((pc + 1 : Nat) : Int) + off = (tgt : Int) := by decide) : Ev l y cc nL rt R E Z n0 pc ls (vL z :: vL x :: st) n ce sl h :=
  ev_BRN (P := x = z) (fun ad C hl kt kf => W.lcmp C.1 C.2.1 hd0 (lv_if_eq C.1 C.2.1 hd ht (fun q => kt (((lg_cmp_eq _ _).trans (pm_eq64 hx hy)).mp q)) (fun q => kf (fun e => q (((lg_cmp_eq _ _).trans (pm_eq64 hx hy)).mpr e))))) kt kf

theorem ev_if_ne {off : Int} (tgt : Nat) {x : Int} (hd : decode cc pc = .ok (.ifCond .ne off, 3)) (hx : -2147483648 ≤ x ∧ x < 2147483648) (kt : x ≠ 0 → Ev l y cc nL rt R E Z n0 tgt ls st n ce sl h) (kf : ¬ (x ≠ 0) → Ev l y cc nL rt R E Z n0 (pc + 3) ls st n ce sl h) (ht : (pc : Int) + off = (tgt : Int) := by decide) : Ev l y cc nL rt R E Z n0 pc ls (vI x :: st) n ce sl h :=
  ev_BRN (P := x ≠ 0) (fun ad C hl kt kf => lv_if_ne C.1 C.2.1 hd ht (by rw [pm_o0]; exact (fun q => kt (fun e => q ((pm_eq32 hx pm_00).mpr e)))) (by rw [pm_o0]; exact (fun q => kf (fun e => e ((pm_eq32 hx pm_00).mp q))))) kt kf

theorem ev_icmp_ne {off : Int} (tgt : Nat) {x z : Int} (hd : decode cc pc = .ok (.if_icmp .ne off, 3)) (hx : -2147483648 ≤ x ∧ x < 2147483648) (hy : -2147483648 ≤ z ∧ z < 2147483648) (kt : x ≠ z → Ev l y cc nL rt R E Z n0 tgt ls st n ce sl h) (kf : ¬ (x ≠ z) → Ev l y cc nL rt R E Z n0 (pc + 3) ls st n ce sl h) (ht : (pc : Int) + off = (tgt : Int) := by decide) : Ev l y cc nL rt R E Z n0 pc ls (vI z :: vI x :: st) n ce sl h :=
  ev_BRN (P := x ≠ z) (fun ad C hl kt kf => lv_icmp_ne C.1 C.2.1 hd ht (fun q => kt (fun e => q ((pm_eq32 hx hy).mpr e))) (fun q => kf (fun e => e ((pm_eq32 hx hy).mp q)))) kt kf

theorem ev_lcmp_ne {off : Int} (tgt : Nat) {x z : Int} (hd0 : decode cc pc = .ok (.lcmp, 1)) (hd : decode cc (pc + 1) = .ok (.ifCond .ne off, 3)) (hx : -9223372036854775808 ≤ x ∧ x < 9223372036854775808) (hy : -9223372036854775808 ≤ z ∧ z < 9223372036854775808) (kt : x ≠ z → Ev l y cc nL rt R E Z n0 tgt ls st n ce sl h) (kf : ¬ (x ≠ z) → Ev l y cc nL rt R E Z n0 (pc + 1 + 3) ls st n ce sl h) (ht : ((pc + 1 : Nat) : Int) + off = (tgt : Int) := by decide) : Ev l y cc nL rt R E Z n0 pc ls (vL z :: vL x :: st) n ce sl h :=
  ev_BRN (P := x ≠ z) (fun ad C hl kt kf => W.lcmp C.1 C.2.1 hd0 (lv_if_ne C.1 C.2.1 hd ht (fun q => kt (fun e => q (((lg_cmp_eq _ _).trans (pm_eq64 hx hy)).mpr e))) (fun q => kf (fun e => e (((lg_cmp_eq _ _).trans (pm_eq64 hx hy)).mp q))))) kt kf

theorem ev_if_lt {off : Int} (tgt : Nat) {x : Int} (hd : decode cc pc = .ok (.ifCond .lt off, 3)) (hx : -2147483648 ≤ x ∧ x < 2147483648) (kt : x < 0 → Ev l y cc nL rt R E Z n0 tgt ls st n ce sl h) (kf : ¬ (x < 0) → Ev l y cc nL rt R E Z n0 (pc + 3) ls st n ce sl h) (ht : (pc : Int) + off = (tgt : Int) := by decide) : Ev l y cc nL rt R E Z n0 pc ls (vI x :: st) n ce sl h :=
  ev_BRN (P := x < 0) (fun ad C hl kt kf => lv_if_lt C.1 C.2.1 hd ht (by rw [pm_o0]; exact (fun q => kt ((pm_lt32 hx pm_00).mp q))) (by rw [pm_o0]; exact (fun q => kf (fun e => q ((pm_lt32 hx pm_00).mpr e))))) kt kf

theorem ev_icmp_lt {off : Int} (tgt : Nat) {x z : Int} (hd : decode cc pc = .ok (.if_icmp .lt off, 3)) (hx : -2147483648 ≤ x ∧ x < 2147483648) (hy : -2147483648 ≤ z ∧ z < 2147483648) (kt : x < z → Ev l y cc nL rt R E Z n0 tgt ls st n ce sl h) (kf : ¬ (x < z) → Ev l y cc nL rt R E Z n0 (pc + 3) ls st n ce sl h) (ht : (pc : Int) + off = (tgt : Int) := by decide) : Ev l y cc nL rt R E Z n0 pc ls (vI z :: vI x :: st) n ce sl h :=
  ev_BRN (P := x < z) (fun ad C hl kt kf => lv_icmp_lt C.1 C.2.1 hd ht (fun q => kt ((pm_lt32 hx hy).mp q)) (fun q => kf (fun e => q ((pm_lt32 hx hy).mpr e)))) kt kf

theorem ev_lcmp_lt {off : Int} (tgt : Nat) {x z : Int} (hd0 : decode cc pc = .ok (.lcmp, 1)) (hd : decode cc (pc + 1) = .ok (.ifCond .lt off, 3)) (hx : -9223372036854775808 ≤ x ∧ x < 9223372036854775808) (hy : -9223372036854775808 ≤ z ∧ z < 9223372036854775808) (kt : x < z → Ev l y cc nL rt R E Z n0 tgt ls st n ce sl h) (kf : ¬ (x < z) → Ev l y cc nL rt R E Z n0 (pc + 1 + 3) ls st n ce sl h) (ht : ((pc + 1 : Nat) : Int) + off = (tgt : Int) := by decide) : Ev l y cc nL rt R E Z n0 pc ls (vL z :: vL x :: st) n ce sl h :=
  ev_BRN (P := x < z) (fun ad C hl kt kf => W.lcmp C.1 C.2.1 hd0 (lv_if_lt C.1 C.2.1 hd ht (fun q => kt (((lg_cmp_lt _ _).trans (pm_lt64 hx hy)).mp q)) (fun q => kf (fun e => q (((lg_cmp_lt _ _).trans (pm_lt64 hx hy)).mpr e))))) kt kf

theorem ev_if_ge {off : Int} (tgt : Nat) {x : Int} (hd : decode cc pc = .ok (.ifCond .ge off, 3)) (hx : -2147483648 ≤ x ∧ x < 2147483648) (kt : 0 ≤ x → Ev l y cc nL rt R E Z n0 tgt ls st n ce sl h) (kf : ¬ (0 ≤ x) → Ev l y cc nL rt R E Z n0 (pc + 3) ls st n ce sl h) (ht : (pc : Int) + off = (tgt : Int) := by decide) : Ev l y cc nL rt R E Z n0 pc ls (vI x :: st) n ce sl h :=
  ev_BRN (P := 0 ≤ x) (fun ad C hl kt kf => lv_if_ge C.1 C.2.1 hd ht (by rw [pm_o0]; exact (fun q => kt ((pm_le32 pm_00 hx).mp q))) (by rw [pm_o0]; exact (fun q => kf (fun e => q ((pm_le32 pm_00 hx).mpr e))))) kt kf

theorem ev_icmp_ge {off : Int} (tgt : Nat) {x z : Int} (hd : decode cc pc = .ok (.if_icmp .ge off, 3)) (hx : -2147483648 ≤ x ∧ x < 2147483648) (hy : -2147483648 ≤ z ∧ z < 2147483648) (kt : z ≤ x → Ev l y cc nL rt R E Z n0 tgt ls st n ce sl h) (kf : ¬ (z ≤ x) → Ev l y cc nL rt R E Z n0 (pc + 3) ls st n ce sl h) (ht : (pc : Int) + off = (tgt : Int) := by decide) : Ev l y cc nL rt R E Z n0 pc ls (vI z :: vI x :: st) n ce sl h :=
  ev_BRN (P := z ≤ x) (fun ad C hl kt kf => lv_icmp_ge C.1 C.2.1 hd ht (fun q => kt ((pm_le32 hy hx).mp q)) (fun q => kf (fun e => q ((pm_le32 hy hx).mpr e)))) kt kf

theorem ev_lcmp_ge {off : Int} (tgt : Nat) {x z : Int} (hd0 : decode cc pc = .ok (.lcmp, 1)) (hd : decode cc (pc + 1) = .ok (.ifCond .ge off, 3)) (hx : -9223372036854775808 ≤ x ∧ x < 9223372036854775808) (hy : -9223372036854775808 ≤ z ∧ z < 9223372036854775808) (kt : z ≤ x → Ev l y cc nL rt R E Z n0 tgt ls st n ce sl h) (kf : ¬ (z ≤ x) → Ev l y cc nL rt R E Z n0 (pc + 1 + 3) ls st n ce sl h) (ht : ((pc + 1 : Nat) : Int) + off = (tgt : Int) := by decide) : Ev l y cc nL rt R E Z n0 pc ls (vL z :: vL x :: st) n ce sl h :=
  ev_BRN (P := z ≤ x) (fun ad C hl kt kf => W.lcmp C.1 C.2.1 hd0 (lv_if_ge C.1 C.2.1 hd ht (fun q => kt (((lg_cmp_ge _ _).trans (pm_le64 hy hx)).mp q)) (fun q => kf (fun e => q (((lg_cmp_ge _ _).trans (pm_le64 hy hx)).mpr e))))) kt kf

theorem ev_if_gt {off : Int} (tgt : Nat) {x : Int} (hd : decode cc pc = .ok (.ifCond .gt off, 3)) (hx : -2147483648 ≤ x ∧ x < 2147483648) (kt : 0 < x → Ev l y cc nL rt R E Z n0 tgt ls st n ce sl h) (kf : ¬ (0 < x) → Ev l y cc nL rt R E Z n0 (pc + 3) ls st n ce sl h) (ht : (pc : Int) + off = (tgt : Int) := by decide) : Ev l y cc nL rt R E Z n0 pc ls (vI x :: st) n ce sl h :=
  ev_BRN (P := 0 < x) (fun ad C hl kt kf => lv_if_gt C.1 C.2.1 hd ht (by rw [pm_o0]; exact (fun q => kt ((pm_lt32 pm_00 hx).mp q))) (by rw [pm_o0]; exact (fun q => kf (fun e => q ((pm_lt32 pm_00 hx).mpr e))))) kt kf

theorem ev_icmp_gt {off : Int} (tgt : Nat) {x z : Int} (hd : decode cc pc = .ok (.if_icmp .gt off, 3)) (hx : -2147483648 ≤ x ∧ x < 2147483648) (hy : -2147483648 ≤ z ∧ z < 2147483648) (kt : z < x → Ev l y cc nL rt R E Z n0 tgt ls st n ce sl h) (kf : ¬ (z < x) → Ev l y cc nL rt R E Z n0 (pc + 3) ls st n ce sl h) (ht : (pc : Int) + off = (tgt : Int) := by decide) : Ev l y cc nL rt R E Z n0 pc ls (vI z :: vI x :: st) n ce sl h :=
  ev_BRN (P := z < x) (fun ad C hl kt kf => lv_icmp_gt C.1 C.2.1 hd ht (fun q => kt ((pm_lt32 hy hx).mp q)) (fun q => kf (fun e => q ((pm_lt32 hy hx).mpr e)))) kt kf

theorem ev_lcmp_gt {off : Int} (tgt : Nat) {x z : Int} (hd0 : decode cc pc = .ok (.lcmp, 1)) (hd : decode cc (pc + 1) = .ok (.ifCond .gt off, 3)) (hx : -9223372036854775808 ≤ x ∧ x < 9223372036854775808) (hy : -9223372036854775808 ≤ z ∧ z < 9223372036854775808) (kt : z < x → Ev l y cc nL rt R E Z n0 tgt ls st n ce sl h) (kf : ¬ (z < x) → Ev l y cc nL rt R E Z n0 (pc + 1 + 3) ls st n ce sl h) (ht : ((pc + 1 : Nat) : Int) + off = (tgt : Int) := by decide) : Ev l y cc nL rt R E Z n0 pc ls (vL z :: vL x :: st) n ce sl h :=
  ev_BRN (P := z < x) (fun ad C hl kt kf => W.lcmp C.1 C.2.1 hd0 (lv_if_gt C.1 C.2.1 hd ht (fun q => kt (((lg_cmp_gt _ _).trans (pm_lt64 hy hx)).mp q)) (fun q => kf (fun e => q (((lg_cmp_gt _ _).trans (pm_lt64 hy hx)).mpr e))))) kt kf

theorem ev_if_le {off : Int} (tgt : Nat) {x : Int} (hd : decode cc pc = .ok (.ifCond .le off, 3)) (hx : -2147483648 ≤ x ∧ x < 2147483648) (kt : x ≤ 0 → Ev l y cc nL rt R E Z n0 tgt ls st n ce sl h) (kf : ¬ (x ≤ 0) → Ev l y cc nL rt R E Z n0 (pc + 3) ls st n ce sl h) (ht : (pc : Int) + off = (tgt : Int) := by decide) : Ev l y cc nL rt R E Z n0 pc ls (vI x :: st) n ce sl h :=
  ev_BRN (P := x ≤ 0) (fun ad C hl kt kf => lv_if_le C.1 C.2.1 hd ht (by rw [pm_o0]; exact (fun q => kt ((pm_le32 hx pm_00).mp q))) (by rw [pm_o0]; exact (fun q => kf (fun e => q ((pm_le32 hx pm_00).mpr e))))) kt kf

theorem ev_icmp_le {off : Int} (tgt : Nat) {x z : Int} (hd : decode cc pc = .ok (.if_icmp .le off, 3)) (hx : -2147483648 ≤ x ∧ x < 2147483648) (hy : -2147483648 ≤ z ∧ z < 2147483648) (kt : x ≤ z → Ev l y cc nL rt R E Z n0 tgt ls st n ce sl h) (kf : ¬ (x ≤ z) → Ev l y cc nL rt R E Z n0 (pc + 3) ls st n ce sl h) (ht : (pc : Int) + off = (tgt : Int) := by decide) : Ev l y cc nL rt R E Z n0 pc ls (vI z :: vI x :: st) n ce sl h :=
  ev_BRN (P := x ≤ z) (fun ad C hl kt kf => lv_icmp_le C.1 C.2.1 hd ht (fun q => kt ((pm_le32 hx hy).mp q)) (fun q => kf (fun e => q ((pm_le32 hx hy).mpr e)))) kt kf

theorem ev_lcmp_le {off : Int} (tgt : Nat) {x z : Int} (hd0 : decode cc pc = .ok (.lcmp, 1)) (hd : decode cc (pc + 1) = .ok (.ifCond .le off, 3)) (hx : -9223372036854775808 ≤ x ∧ x < 9223372036854775808) (hy : -9223372036854775808 ≤ z ∧ z < 9223372036854775808) (kt : x ≤ z → Ev l y cc nL rt R E Z n0 tgt ls st n ce sl h) (kf : ¬ (x ≤ z) → Ev l y cc nL rt R E Z n0 (pc + 1 + 3) ls st n ce sl h) (ht : ((pc + 1 : Nat) : Int) + off = (tgt : Int) := by decide) : Ev l y cc nL rt R E Z n0 pc ls (vL z :: vL x :: st) n ce sl h :=
  ev_BRN (P := x ≤ z) (fun ad C hl kt kf => W.lcmp C.1 C.2.1 hd0 (lv_if_le C.1 C.2.1 hd ht (fun q => kt (((lg_cmp_le _ _).trans (pm_le64 hx hy)).mp q)) (fun q => kf (fun e => q (((lg_cmp_le _ _).trans (pm_le64 hx hy)).mpr e))))) kt kf

end EV
end
section

/-! heap rows, contracts, calls -/
def FL (own : String) (idx ci k : Nat) (ty : FieldType) (fin : Bool) : Prop := ∃ (C : String) (T : u_T) (N : Nat) (tys : Nat → FieldType), vwCl[ci]? = some (C, T, N) ∧ (∀ w ∈ u_ws C T N, w ∈ tbw) ∧ k < N ∧ Cond.fieldLink own idx (T k).1 (T k).2.1 (T k).2.2.1 ∈ tbw ∧ (T k).2.2.2 = fin ∧ (∀ j, j < N → parseFieldDescriptor (T j).2.2.1 = some (tys j)) ∧ (∀ a, a < N → ∀ b, b < N → a ≠ b → (T a).2.1 ≠ (T b).2.1) ∧ parseFieldDescriptor (T k).2.2.1 = some ty ∧ (fin = true → (T k).1 = own)
def FG (own : String) (idx ci k : Nat) : Prop := ∃ (C : String) (T : u_T) (N : Nat), vwCl[ci]? = some (C, T, N) ∧ (∀ w ∈ u_ws C T N, w ∈ tbw) ∧ k < N ∧ Cond.fieldLink own idx (T k).1 (T k).2.1 (T k).2.2.1 ∈ tbw
theorem FL.g {own : String} {idx ci k : Nat} {ty : FieldType} {fin : Bool} (h : FL own idx ci k ty fin) : FG own idx ci k := by
  obtain ⟨C, T, N, tys, hc, hin, hk, hlk, -⟩ := h
  exact ⟨C, T, N, hc, hin, hk, hlk⟩
theorem tb_at {w : Cond} (i : Nat) (h : tables_1[i]? = some w) (hg : goodWord w = true) : w ∈ tbw := tb_in (List.mem_append_right _ (List.mem_of_getElem? h)) hg
theorem tb_sel {w : Cond} (i : Nat) (h : (k2_sels lw_privs)[i]? = some w) (hg : goodWord w = true) : w ∈ tbw := tb_in (List.mem_append_left _ (List.mem_of_getElem? h)) hg
def okT (ty : FieldType) (v : PV) : Prop := ∀ ad : Nat → Nat, narrow ty (pm_v ad v) = pm_v ad v ∧ fits ty (pm_v ad v) = true
theorem okT_I (z : Int) : okT .int (vI z) := fun _ => ⟨rfl, rfl⟩
theorem okT_L (z : Int) : okT .long (vL z) := fun _ => ⟨rfl, rfl⟩
theorem okT_Z {z : Int} (hz : z = 0 ∨ z = 1) : okT .boolean (vI z) := fun _ => by
  rcases hz with rfl | rfl
  · exact ⟨show narrow .boolean (.int (Int32.ofInt 0)) = .int (Int32.ofInt 0) by decide +kernel, show fits .boolean (.int (Int32.ofInt 0)) = true by decide +kernel⟩
  · exact ⟨show narrow .boolean (.int (Int32.ofInt 1)) = .int (Int32.ofInt 1) by decide +kernel, show fits .boolean (.int (Int32.ofInt 1)) = true by decide +kernel⟩
theorem okT_O (C : String) (r : Nat) : okT (.object C) (vR r) := fun _ => ⟨rfl, rfl⟩
theorem okT_A (t : FieldType) (r : Nat) : okT (.array t) (vR r) := fun _ => ⟨rfl, rfl⟩
def okv (n : Nat) (v : PV) : Prop := ∀ r, v = vR r → r < n
def okc (n : Nat) (c : PK) : Prop := match c with
  | Sum.inl _ => True
  | Sum.inr (Sum.inl (_, _, f)) => ∀ j r, f j = some r → r < n
  | Sum.inr (Sum.inr (_, fs)) => ∀ v ∈ fs, okv n v
theorem okv_I {n : Nat} (z : Int) : okv n (vI z) := fun _ h => by cases h
theorem okv_L {n : Nat} (z : Int) : okv n (vL z) := fun _ h => by cases h
theorem okv_R {n r : Nat} (h : r < n) : okv n (vR r) := fun _ e => by cases e; exact h
theorem okv_N {n : Nat} : okv n (vQ none) := fun _ h => by cases h
theorem okv.up {n m : Nat} {v : PV} (h : okv n v) (hm : n ≤ m) : okv m v := fun r e => Nat.lt_of_lt_of_le (h r e) hm
theorem okc.up {n m : Nat} {c : PK} (h : okc n c) (hm : n ≤ m) : okc m c := by
  rcases c with a | a | a
  · trivial
  · exact fun j r e => Nat.lt_of_lt_of_le (h j r e) hm
  · exact fun v hv => (h v hv).up hm
theorem pm_v_eq {n : Nat} {v : PV} {ad ad' : Nat → Nat} (h : okv n v) (ha : ∀ k, k < n → ad k = ad' k) : pm_v ad v = pm_v ad' v := by
  rcases v with z | z | r
  · rfl
  · rfl
  · cases r with
    | none => rfl
    | some r => show va_rf (some (ad r)) = va_rf (some (ad' r)); rw [ha r (h r rfl)]
theorem pm_c_eq {n : Nat} {c : PK} {dA : Nat → ClassId} {ad ad' : Nat → Nat} (h : okc n c) (ha : ∀ k, k < n → ad k = ad' k) : pm_c dA ad c = pm_c dA ad' c := by
  rcases c with ⟨k, m, f⟩ | ⟨k, m, f⟩ | ⟨c, fs⟩
  · rfl
  · have e : (fun j => (f j).map ad) = (fun j => (f j).map ad') := by
      funext j
      cases hj : f j with
      | none => rfl
      | some r => show some (ad r) = some (ad' r); rw [ha r (h j r hj)]
    show Sum.inl (_, _, _) = Sum.inl (_, _, _)
    rw [e]
  · show Sum.inr (_, _) = Sum.inr (_, _)
    rw [List.map_congr_left (fun v hv => pm_v_eq (h v hv) ha)]
theorem lvs_eq {n : Nat} {ad ad' : Nat → Nat} {A : Array Slot} {nL : Nat} {ls : List (Option PV)} (h : ∀ i v, lk ls i = some v → okv n v) (ha : ∀ k, k < n → ad k = ad' k) (hl : lvs ad A nL ls) : lvs ad' A nL ls :=
  ⟨hl.1, hl.2.1, fun i v e => by rw [hl.2.2 i v e, pm_v_eq (h i v e) ha]⟩
def okl (n : Nat) : List (Option PV) → Prop
  | [] => True
  | none :: r => okl n r
  | some v :: r => okv n v ∧ okl n r
theorem okl_at {n : Nat} : ∀ {ls : List (Option PV)}, okl n ls → ∀ i v, lk ls i = some v → okv n v
  | [], _, i, v, h => by simp [lk] at h
  | none :: r, hr, 0, v, h => by simp [lk] at h
  | none :: r, hr, i + 1, v, h => okl_at (ls := r) hr i v h
  | some w :: r, hr, 0, v, h => by cases h; exact hr.1
  | some w :: r, hr, i + 1, v, h => okl_at (ls := r) hr.2 i v h
def oks (n : Nat) : List PV → Prop
  | [] => True
  | v :: r => okv n v ∧ oks n r
theorem oks_map {n : Nat} {ad ad' : Nat → Nat} (ha : ∀ k, k < n → ad k = ad' k) : ∀ {st : List PV}, oks n st → st.map (pm_v ad) = st.map (pm_v ad')
  | [], _ => rfl
  | v :: r, h => by rw [List.map_cons, List.map_cons, pm_v_eq h.1 ha, oks_map ha h.2]
def okh (n : Nat) (h : HP) : Prop := ∀ k, k < n → okc n (h k)
theorem pm_idx {z : Int} {m : Nat} (hz : 0 ≤ z ∧ z < (m : Int)) (hm : m < 2147483648) : vp_in (Int32.ofInt z) m ∧ (Int32.ofInt z).toNatClampNeg = z.toNat := by
  have h1 : (Int32.ofInt z).toInt = z := pm_r32 (by omega)
  refine ⟨vp_in_iff.mpr (by rw [h1]; exact hz), ?_⟩
  exact Int32.toNatClampNeg_ofInt_of_le (by omega) (by omega)
theorem pm_upd32 (f : Nat → Int) (k : Nat) (x : Int) : upd (fun j => Int32.ofInt (f j)) k (Int32.ofInt x) = fun j => Int32.ofInt (va_up f k x j) := by
  funext j
  by_cases h : j = k
  · subst h; rw [pk_us, va_up_self]
  · rw [pk_un h, va_up_ne _ _ h]
theorem pm_upd64 (f : Nat → Int) (k : Nat) (x : Int) : vp_updL (fun j => Int64.ofInt (f j)) k (Int64.ofInt x) = fun j => Int64.ofInt (va_up f k x j) := by
  funext j
  by_cases h : j = k
  · subst h; rw [pk_uLs, va_up_self]
  · rw [pk_uLn h, va_up_ne _ _ h]
section EH
variable {l : Launch} {y : MethodName} {cc : ByteArray} {nL : Nat} {rt : Option FieldType} {R : Room} {E : EE} {Z : ZZ} {n0 pc : Nat} {ls : List (Option PV)} {st : List PV} {n ce sl : Nat} {h : HP}
theorem ev_get {idx ci k : Nat} (hf : FG y.cls idx ci k) (hd : decode cc pc = .ok (.getfield idx, 3)) {r : Nat} {fs : List PV} {v : PV} (hr : r < n) (hh : h r = kO ci fs) (hv : fs[k]? = some v) (kk : Ev l y cc nL rt R E Z n0 (pc + 3) ls (v :: st) n ce sl h) : Ev l y cc nL rt R E Z n0 pc ls (vR r :: st) n ce sl h := by
  intro p e s m args below meth c C D dA ad0 ad A H locs lsA a0 a1 a2 a3 hK hP hD hS hA hl
  obtain ⟨CC, T, N, hc, hin, hk, hlk⟩ := hf
  exact va_get C.1 C.2.1 C.2.2.2.2.2.1 hin C.2.2.2.2.1 hK.1 hP r (fs := fs.map (pm_v ad)) (by rw [pm_w_at hr, hh]; rfl) hc k hk (C.2.2.2.2.2.1 _ hlk) (fun _ h9 => h9) (v := pm_v ad v) (by rw [List.getElem?_map, hv]; rfl) hd (kk p e s m args below meth c C D dA ad0 ad A H locs lsA a0 a1 a2 a3 hK hP hD hS hA hl)
theorem ev_put {idx ci k : Nat} {ty : FieldType} (hf : FL y.cls idx ci k ty false) (hd : decode cc pc = .ok (.putfield idx, 3)) {r : Nat} {fs : List PV} {v : PV} (hr : r < n) (hh : h r = kO ci fs) (hv : okT ty v) (hlen : k < fs.length) (kk : Ev l y cc nL rt R E Z n0 (pc + 3) ls st n ce sl (va_up h r (kO ci (fs.set k v)))) : Ev l y cc nL rt R E Z n0 pc ls (v :: vR r :: st) n ce sl h := by
  intro p e s m args below meth c C D dA ad0 ad A H locs lsA a0 a1 a2 a3 hK hP hD hS hA hl
  obtain ⟨CC, T, N, tys, hc, hin, hk, hlk, hfin, hty, hnm, hd2, hdc⟩ := hf
  have hset : (fs.map (pm_v ad)).set k (pm_v ad v) = (fs.set k v).map (pm_v ad) := by rw [List.map_set]
  refine va_put C.1 C.2.1 C.2.2.2.2.2.1 hin tys hty hnm C.2.2.2.2.1 hK.1 hP hD hS r (fs := fs.map (pm_v ad)) (by rw [pm_w_at hr, hh]; rfl) hc k hk (C.2.2.2.2.2.1 _ hlk) (fun _ h9 => h9) hfin hd2 (hv ad).1 (hv ad).2 (by simpa using hlen) hd (fun H1 locs1 hP1 hD1 hS1 => ?_)
  rw [hset] at hP1 hD1
  have e1 := pm_w_set (dA := dA) (ad := ad) (h := h) hr (kO ci (fs.set k v))
  rw [show (ad r, (Sum.inr (ci, (fs.set k v).map (pm_v ad)) : va_E)) = (ad r, pm_c dA ad (kO ci (fs.set k v))) from rfl, e1] at hP1 hD1
  exact kk p e s m args below meth c C D dA ad0 ad A H1 locs1 lsA a0 a1 a2 a3 hK hP1 hD1 hS1 hA hl
theorem ev_putF {idx ci k : Nat} {ty : FieldType} (hf : FL y.cls idx ci k ty true) (hy : y.name = "<init>") (hd : decode cc pc = .ok (.putfield idx, 3)) {r : Nat} {fs : List PV} {v : PV} (hr : r < n) (hh : h r = kO ci fs) (hv : okT ty v) (hlen : k < fs.length) (kk : Ev l y cc nL rt R E Z n0 (pc + 3) ls st n ce sl (va_up h r (kO ci (fs.set k v)))) : Ev l y cc nL rt R E Z n0 pc ls (v :: vR r :: st) n ce sl h := by
  intro p e s m args below meth c C D dA ad0 ad A H locs lsA a0 a1 a2 a3 hK hP hD hS hA hl
  obtain ⟨CC, T, N, tys, hc, hin, hk, hlk, hfin, hty, hnm, hd2, hdc⟩ := hf
  have hset : (fs.map (pm_v ad)).set k (pm_v ad v) = (fs.set k v).map (pm_v ad) := by rw [List.map_set]
  refine va_putF C.1 C.2.1 C.2.2.2.2.2.1 hin tys hty hnm C.2.2.2.2.1 hK.1 hP hD hS r (fs := fs.map (pm_v ad)) (by rw [pm_w_at hr, hh]; rfl) hc k hk (C.2.2.2.2.2.1 _ hlk) (fun _ h9 => h9) hfin (C.2.2.2.2.2.2.2.trans hy) (hdc rfl) hd2 (hv ad).1 (hv ad).2 (by simpa using hlen) hd (fun H1 locs1 hP1 hD1 hS1 => ?_)
  rw [hset] at hP1 hD1
  have e1 := pm_w_set (dA := dA) (ad := ad) (h := h) hr (kO ci (fs.set k v))
  rw [show (ad r, (Sum.inr (ci, (fs.set k v).map (pm_v ad)) : va_E)) = (ad r, pm_c dA ad (kO ci (fs.set k v))) from rfl, e1] at hP1 hD1
  exact kk p e s m args below meth c C D dA ad0 ad A H1 locs1 lsA a0 a1 a2 a3 hK hP1 hD1 hS1 hA hl
theorem ev_iald (hd : decode cc pc = .ok (.iaload, 1)) {r m : Nat} {f : Nat → Int} {z : Int} (hr : r < n) (hh : h r = kI m f) (hz : 0 ≤ z ∧ z < (m : Int)) (kk : Ev l y cc nL rt R E Z n0 (pc + 1) ls (vI (f z.toNat) :: st) n ce sl h) (hm : m < 2147483648 := by decide) : Ev l y cc nL rt R E Z n0 pc ls (vI z :: vR r :: st) n ce sl h := by
  intro p e s m args below meth c C D dA ad0 ad A H locs lsA a0 a1 a2 a3 hK hP hD hS hA hl
  obtain ⟨i1, i2⟩ := pm_idx hz hm
  refine va_iald C.1 C.2.1 hK.1 hP r 0 (f := fun j => Int32.ofInt (f j)) (by rw [pm_w_at hr, hh]; rfl) rfl i1 hd ?_
  rw [i2]
  exact kk p e s m args below meth c C D dA ad0 ad A H locs lsA a0 a1 a2 a3 hK hP hD hS hA hl
theorem ev_zald (hd : decode cc pc = .ok (.baload, 1)) {r m : Nat} {f : Nat → Int} {z : Int} (hr : r < n) (hh : h r = kZ m f) (hz : 0 ≤ z ∧ z < (m : Int)) (kk : Ev l y cc nL rt R E Z n0 (pc + 1) ls (vI (f z.toNat) :: st) n ce sl h) (hm : m < 2147483648 := by decide) : Ev l y cc nL rt R E Z n0 pc ls (vI z :: vR r :: st) n ce sl h := by
  intro p e s m args below meth c C D dA ad0 ad A H locs lsA a0 a1 a2 a3 hK hP hD hS hA hl
  obtain ⟨i1, i2⟩ := pm_idx hz hm
  refine va_zald C.1 C.2.1 hK.1 hP r 2 (f := fun j => Int32.ofInt (f j)) (by rw [pm_w_at hr, hh]; rfl) rfl i1 hd ?_
  rw [i2]
  exact kk p e s m args below meth c C D dA ad0 ad A H locs lsA a0 a1 a2 a3 hK hP hD hS hA hl
theorem ev_lald (hd : decode cc pc = .ok (.laload, 1)) {r m : Nat} {f : Nat → Int} {z : Int} (hr : r < n) (hh : h r = kJ m f) (hz : 0 ≤ z ∧ z < (m : Int)) (kk : Ev l y cc nL rt R E Z n0 (pc + 1) ls (vL (f z.toNat) :: st) n ce sl h) (hm : m < 2147483648 := by decide) : Ev l y cc nL rt R E Z n0 pc ls (vI z :: vR r :: st) n ce sl h := by
  intro p e s m args below meth c C D dA ad0 ad A H locs lsA a0 a1 a2 a3 hK hP hD hS hA hl
  obtain ⟨i1, i2⟩ := pm_idx hz hm
  refine va_lald C.1 C.2.1 hK.1 hP r 1 (f := fun j => Int64.ofInt (f j)) (by rw [pm_w_at hr, hh]; rfl) rfl i1 hd ?_
  rw [i2]
  exact kk p e s m args below meth c C D dA ad0 ad A H locs lsA a0 a1 a2 a3 hK hP hD hS hA hl
theorem ev_iast (hd : decode cc pc = .ok (.iastore, 1)) {r m : Nat} {f : Nat → Int} {z x : Int} (hr : r < n) (hh : h r = kI m f) (hz : 0 ≤ z ∧ z < (m : Int)) (kk : Ev l y cc nL rt R E Z n0 (pc + 1) ls st n ce sl (va_up h r (kI m (va_up f z.toNat x)))) (hm : m < 2147483648 := by decide) : Ev l y cc nL rt R E Z n0 pc ls (vI x :: vI z :: vR r :: st) n ce sl h := by
  intro p e s mi args below meth c C D dA ad0 ad A H locs lsA a0 a1 a2 a3 hK hP hD hS hA hl
  obtain ⟨i1, i2⟩ := pm_idx hz hm
  refine va_iast C.1 C.2.1 hK.1 hP hD hS r 0 (f := fun j => Int32.ofInt (f j)) (by rw [pm_w_at hr, hh]; rfl) rfl i1 hd (fun H1 locs1 hP1 hD1 hS1 => ?_)
  rw [i2, pm_upd32] at hP1 hD1
  have e1 := pm_w_set (dA := dA) (ad := ad) (h := h) hr (kI m (va_up f z.toNat x))
  erw [e1] at hP1 hD1
  exact kk p e s mi args below meth c C D dA ad0 ad A H1 locs1 lsA a0 a1 a2 a3 hK hP1 hD1 hS1 hA hl
theorem ev_last (hd : decode cc pc = .ok (.lastore, 1)) {r m : Nat} {f : Nat → Int} {z x : Int} (hr : r < n) (hh : h r = kJ m f) (hz : 0 ≤ z ∧ z < (m : Int)) (kk : Ev l y cc nL rt R E Z n0 (pc + 1) ls st n ce sl (va_up h r (kJ m (va_up f z.toNat x)))) (hm : m < 2147483648 := by decide) : Ev l y cc nL rt R E Z n0 pc ls (vL x :: vI z :: vR r :: st) n ce sl h := by
  intro p e s mi args below meth c C D dA ad0 ad A H locs lsA a0 a1 a2 a3 hK hP hD hS hA hl
  obtain ⟨i1, i2⟩ := pm_idx hz hm
  refine va_last C.1 C.2.1 hK.1 hP hD hS r 1 (f := fun j => Int64.ofInt (f j)) (by rw [pm_w_at hr, hh]; rfl) rfl i1 hd (fun H1 locs1 hP1 hD1 hS1 => ?_)
  rw [i2, pm_upd64] at hP1 hD1
  have e1 := pm_w_set (dA := dA) (ad := ad) (h := h) hr (kJ m (va_up f z.toNat x))
  erw [e1] at hP1 hD1
  exact kk p e s mi args below meth c C D dA ad0 ad A H1 locs1 lsA a0 a1 a2 a3 hK hP1 hD1 hS1 hA hl
theorem ev_zast (hd : decode cc pc = .ok (.bastore, 1)) {r m : Nat} {f : Nat → Int} {z x : Int} (hr : r < n) (hh : h r = kZ m f) (hz : 0 ≤ z ∧ z < (m : Int)) (hx : x = 0 ∨ x = 1) (kk : Ev l y cc nL rt R E Z n0 (pc + 1) ls st n ce sl (va_up h r (kZ m (va_up f z.toNat x)))) (hm : m < 2147483648 := by decide) : Ev l y cc nL rt R E Z n0 pc ls (vI x :: vI z :: vR r :: st) n ce sl h := by
  intro p e s mi args below meth c C D dA ad0 ad A H locs lsA a0 a1 a2 a3 hK hP hD hS hA hl
  obtain ⟨i1, i2⟩ := pm_idx hz hm
  refine va_zast C.1 C.2.1 hK.1 hP hD hS r 2 (f := fun j => Int32.ofInt (f j)) (by rw [pm_w_at hr, hh]; rfl) rfl i1 hd (fun H1 locs1 hP1 hD1 hS1 => ?_)
  have hnx : vp_nar .boolean (Int32.ofInt x) = Int32.ofInt x := by rcases hx with rfl | rfl <;> decide +kernel
  rw [i2, hnx, pm_upd32] at hP1 hD1
  have e1 := pm_w_set (dA := dA) (ad := ad) (h := h) hr (kZ m (va_up f z.toNat x))
  erw [e1] at hP1 hD1
  exact kk p e s mi args below meth c C D dA ad0 ad A H1 locs1 lsA a0 a1 a2 a3 hK hP1 hD1 hS1 hA hl
theorem ev_aald (hd : decode cc pc = .ok (.aaload, 1)) {r m j : Nat} {kd : Nat} {f : Nat → Option Nat} {z : Int} (hr : r < n) (hh : h r = kQ kd m f) (hz : 0 ≤ z ∧ z < (m : Int)) (hj : f z.toNat = some j) (kk : Ev l y cc nL rt R E Z n0 (pc + 1) ls (vR j :: st) n ce sl h) (hm : m < 2147483648 := by decide) (hkd : kd < 4 := by decide) : Ev l y cc nL rt R E Z n0 pc ls (vI z :: vR r :: st) n ce sl h := by
  intro p e s m' args below meth c C D dA ad0 ad A H locs lsA a0 a1 a2 a3 hK hP hD hS hA hl
  obtain ⟨i1, i2⟩ := pm_idx hz hm
  have hlt : (Int32.ofInt z).toNatClampNeg < m := by rw [i2]; omega
  have ht : ∃ ty : FieldType, (pm_T dA)[kd + 3]? = some (dA (kd + 3), ty) ∧ ty.isReference = true := by
    rcases (show kd = 0 ∨ kd = 1 ∨ kd = 2 ∨ kd = 3 by omega) with rfl | rfl | rfl | rfl
    · exact ⟨_, rfl, rfl⟩
    · exact ⟨_, rfl, rfl⟩
    · exact ⟨_, rfl, rfl⟩
    · exact ⟨_, rfl, rfl⟩
  obtain ⟨ty, t1, t2⟩ := ht
  have hw : (pm_w dA ad n h)[r]? = some (ad r, Sum.inl (dA (kd + 3), m, .inr (.inr (.inr (.inr (fun j => (f j).map ad)))))) := by rw [pm_w_at hr, hh]; rfl
  have hcell : H[ad r]? = some (vp_cell (dA (kd + 3)) (m, .inr (.inr (.inr (.inr (fun j => (f j).map ad)))))) := hP r _ hw
  refine W.aald (v := va_rf ((f (Int32.ofInt z).toNatClampNeg).map ad)) (ty := ty) C.1 C.2.1 hcell ((hK.1.2 _ _ t1).1 m (fun j => va_rf ((f j).map ad))) t2 (fun q => by cases q) (by show ¬ (Int32.ofInt z < 0 ∨ (arrV _ _ _).slots.size ≤ _); rw [arrV_size]; exact i1) (by show (arrV _ _ _).slots[_]? = _; rw [arrV_read _ _ hlt]) rfl rfl hd ?_
  rw [i2, hj]
  exact kk p e s m' args below meth c C D dA ad0 ad A H locs lsA a0 a1 a2 a3 hK hP hD hS hA hl
end EH
end
section
/-! contracts and calls -/
def pm_Q (Q : Option PV → Nat → HP → Prop) (D : va_G) (dA : Nat → ClassId) (ad0 : Nat → Nat) (n0 : Nat) (A : Nat → Prop) : Array Value → State → Outcome → State → Prop := fun _ st o t =>
  (∃ (r : Option PV) (n' : Nat) (h' : HP) (ad' : Nat → Nat), o = .returned (r.map (pm_v ad')) ∧ Q r n' h' ∧ n0 ≤ n' ∧ (∀ k, k < n0 → ad' k = ad0 k) ∧ (n' = n0 → ad' = ad0) ∧ va_P D vwCl (pm_w dA ad' n' h') t.heap ∧ pm_K D dA t ∧ va_D A (pm_w dA ad' n' h')) ∧ va_F A st t
def zM (Q : Option PV → Nat → HP → Prop) (n0 mc ms : Nat) : ZZ := fun below args s D dA ad0 A => MQ below (pm_Q Q D dA ad0 n0 A) args s mc ms A
abbrev eT : EE := fun _ _ => True
def Con (l : Launch) (y : MethodName) (cc : ByteArray) (nL : Nat) (rt : Option FieldType) (fr lo mc ms : Nat) (av : List PV) (n : Nat) (h : HP) (Q : Option PV → Nat → HP → Prop) : Prop :=
  ∀ (D : va_G) (dA : Nat → ClassId) (ad : Nat → Nat) (sz : Nat), Met l y (.code y cc nL rt :: tbw) { frames := fr, cells := mc, slots := ms, locals := lo } (va_Pc (av.map (pm_v ad)) (fun U => U.heap.size = sz ∧ va_P D vwCl (pm_w dA ad n h) U.heap ∧ pm_K D dA U ∧ va_D (fun _ => True) (pm_w dA ad n h))) (pm_Q Q D dA ad n (va_A (pm_w dA ad n h) sz)) mc ms (va_A (pm_w dA ad n h) sz)
def enl : List PV → List (Option PV)
  | [] => []
  | Sum.inr (Sum.inl z) :: r => some (vL z) :: none :: enl r
  | Sum.inl z :: r => some (vI z) :: enl r
  | Sum.inr (Sum.inr q) :: r => some (vQ q) :: enl r
theorem lk_rep : ∀ (k j : Nat) (v : PV), lk (List.replicate k none) j ≠ some v
  | 0, j, v, h => by simp [lk] at h
  | k + 1, 0, v, h => by simp [List.replicate, lk] at h
  | k + 1, j + 1, v, h => lk_rep k j v h
theorem enl_args {ad : Nat → Nat} {k : Nat} : ∀ (av : List PV) (i j : Nat) (v : PV), lk (enl av ++ List.replicate k none) j = some v → (i + j, pm_v ad v) ∈ lv_args i (av.map (pm_v ad))
  | [], i, j, v, h => absurd h (lk_rep k j v)
  | Sum.inl z :: r, i, 0, v, h => by cases h; exact List.mem_cons_self
  | Sum.inl z :: r, i, j + 1, v, h => by
    have := enl_args (ad := ad) r (i + 1) j v h
    rw [show i + (j + 1) = i + 1 + j by omega]
    exact List.mem_cons_of_mem _ this
  | Sum.inr (Sum.inr q) :: r, i, 0, v, h => by cases h; exact List.mem_cons_self
  | Sum.inr (Sum.inr q) :: r, i, j + 1, v, h => by
    have := enl_args (ad := ad) r (i + 1) j v h
    rw [show i + (j + 1) = i + 1 + j by omega]
    cases q <;> exact List.mem_cons_of_mem _ this
  | Sum.inr (Sum.inl z) :: r, i, 0, v, h => by cases h; exact List.mem_cons_self
  | Sum.inr (Sum.inl z) :: r, i, 1, v, h => by cases h
  | Sum.inr (Sum.inl z) :: r, i, j + 2, v, h => by
    have := enl_args (ad := ad) r (i + 2) j v h
    rw [show i + (j + 2) = i + 2 + j by omega]
    exact List.mem_cons_of_mem _ this
theorem enl_len {ad : Nat → Nat} : ∀ (av : List PV), (lg_sl (av.map (pm_v ad))).length = (enl av).length
  | [] => rfl
  | Sum.inl z :: r => by
    have := enl_len (ad := ad) r
    simp only [lg_sl, enl, List.map_cons, List.flatMap_cons, List.length_append, List.length_cons] at this ⊢
    rw [this]; simp [pm_v, Value.category]; omega
  | Sum.inr (Sum.inl z) :: r => by
    have := enl_len (ad := ad) r
    simp only [lg_sl, enl, List.map_cons, List.flatMap_cons, List.length_append, List.length_cons] at this ⊢
    rw [this]; simp [pm_v, Value.category]; omega
  | Sum.inr (Sum.inr none) :: r => by
    have := enl_len (ad := ad) r
    simp only [lg_sl, enl, List.map_cons, List.flatMap_cons, List.length_append, List.length_cons] at this ⊢
    rw [this]; simp [pm_v, va_rf, Value.category]; omega
  | Sum.inr (Sum.inr (some q)) :: r => by
    have := enl_len (ad := ad) r
    simp only [lg_sl, enl, List.map_cons, List.flatMap_cons, List.length_append, List.length_cons] at this ⊢
    rw [this]; simp [pm_v, va_rf, Value.category]; omega
theorem con_of {l : Launch} {y : MethodName} {cc : ByteArray} {nL : Nat} {rt : Option FieldType} {fr lo mc ms : Nat} {av : List PV} {n : Nat} {h : HP} {Q : Option PV → Nat → HP → Prop} (ls : List (Option PV)) (hpl : plainName y.cls = true) (hlen : (enl av).length ≤ nL) (hls : enl av ++ List.replicate (nL - (enl av).length) none = ls)
    (k : Ev l y cc nL rt { frames := fr, cells := mc, slots := ms, locals := lo } eT (zM Q n mc ms) n 0 ls [] n 0 0 h) : Con l y cc nL rt fr lo mc ms av n h Q := by
  intro D dA ad sz
  refine Met.ofW (cc := cc) (maxL := nL) (ret := rt) hpl rfl ?_
  intro p e s m args below meth c s₁ B hml hv
  obtain ⟨rfl, hsz, hP, hK, hD0⟩ := hv
  subst hsz
  have hts : ∀ w ∈ tbw, w.before (av.map (pm_v ad)).toArray s = true := fun w hw => atoms_spec (ws := .code y cc nL rt :: tbw) B.pre w (List.mem_cons_of_mem _ hw)
  have C : Cx y cc nL rt p s m (av.map (pm_v ad)).toArray meth c := ⟨B.exec, B.bytes, B.returns, hml, findClass_of_methodNamed B.named, hts, B.notSynchronized, (name_of_methodNamed B.named B.method).1⟩
  rw [lg_entry_eq]
  have he := lv_entry (av.map (pm_v ad)) (n := nL) (by rw [enl_len]; exact hlen)
  subst hls
  exact k p e s m _ below meth c C D dA ad ad _ s.heap [] _ trivial (Nat.le_refl _) (fun _ _ => rfl) (fun _ => rfl) hK hP hD0.self va_S.rf (fun q h => Or.inr h) ⟨he.1, he.2.1, fun i v hi => he.2.2 (i, pm_v ad v) (by have := enl_args (ad := ad) av 0 i v hi; rwa [Nat.zero_add] at this)⟩
def MB (own : String) (idx : Nat) (z : MethodName) (cz : ByteArray) (nz : Nat) (rz : Option FieldType) (np : Nat) : Prop := Cond.methodLink own idx z ∈ tbw ∧ Cond.initialized z.cls ∈ tbw ∧ Cond.code z cz nz rz ∈ tbw ∧ z.cls ≠ "java/lang/invoke/MethodHandle" ∧ z.cls ≠ "java/lang/invoke/VarHandle" ∧ (parseMethodDescriptor z.desc).map (fun d => d.parameters.length) = some np
def MS (own : String) (idx : Nat) (z : MethodName) (cz : ByteArray) (nz : Nat) (rz : Option FieldType) (np : Nat) : Prop := MB own idx z cz nz rz np ∧ Cond.static z ∈ tbw
def MV (own : String) (idx ci : Nat) (z : MethodName) (cz : ByteArray) (nz : Nat) (rz : Option FieldType) (np : Nat) : Prop := MB own idx z cz nz rz np ∧ Cond.instanceMethod z ∈ tbw ∧ Cond.selects z.cls z z ∈ tbw ∧ ∃ T N, vwCl[ci]? = some (z.cls, T, N)
def MI (own : String) (idx : Nat) (z : MethodName) (cz : ByteArray) (nz : Nat) (rz : Option FieldType) (np : Nat) : Prop := MB own idx z cz nz rz np ∧ Cond.instanceMethod z ∈ tbw ∧ z.name = "<init>" ∧ rz = none
def pcat (v : PV) : Nat := match v with
  | Sum.inr (Sum.inl _) => 2
  | _ => 1
theorem pcat_map {ad : Nat → Nat} : ∀ (st : List PV), ((st.map (pm_v ad)).map fun v => v.category).sum = (st.map pcat).sum
  | [] => rfl
  | v :: r => by
    rw [List.map_cons, List.map_cons, List.sum_cons, List.map_cons, List.sum_cons, pcat_map r]
    rcases v with z | z | (_ | q) <;> rfl
section EC
variable {l : Launch} {y : MethodName} {cc : ByteArray} {nL : Nat} {rt : Option FieldType} {R : Room} {E : EE} {Z : ZZ} {n0 pc : Nat} {ls : List (Option PV)} {st : List PV} {n ce sl : Nat} {h : HP}
theorem pm_blind {D : va_G} {dA : Nat → ClassId} {ad : Nat → Nat} {sz : Nat} {av : List PV} : FrameBlind (va_Pc (av.map (pm_v ad)) (fun U => U.heap.size = sz ∧ va_P D vwCl (pm_w dA ad n h) U.heap ∧ pm_K D dA U ∧ va_D (fun _ => True) (pm_w dA ad n h))) :=
  fun a U g mk q => by obtain ⟨q0, q1, qP, qK, qD⟩ := q; exact ⟨q0, q1, qP, pm_K.moved (u := U) (U := U.calling g mk a) (Vm.Alike.refl U.vm) qK, qD⟩
theorem mb_call {own : String} {idx : Nat} {z : MethodName} {cz : ByteArray} {nz : Nat} {rz : Option FieldType} {np fr lo mc ms : Nat} {s : State} {args : Array Value} (hts : ∀ w ∈ tbw, w.before args s = true) (hb : MB own idx z cz nz rz np) (hR : fr + 1 ≤ R.frames ∧ 8 + (nz + 11) + lo ≤ R.locals) :
    CallB R s args own idx z cz nz rz (.code z cz nz rz :: tbw) { frames := fr, cells := mc, slots := ms, locals := lo } mc ms np :=
  callB_of np hts (fun w hw => by
    have hm : w ∈ tbw := by
      rcases List.mem_cons.mp hw with e | e
      · rw [e]; exact hb.2.2.1
      · exact e
    exact ⟨hm, tb_good hm⟩) rfl rfl rfl (hts _ hb.2.1) (hts _ hb.1) hb.2.2.2 hR
theorem pm_call {p : Program} {e : Env} {s : State} {m : MethodId} {args : Array Value} {below : List Frame} {meth : Method} {c : Code} {D : va_G} {dA : Nat → ClassId} {ad : Nat → Nat} {A : Nat → Prop} {H : Heap} {locs : List Loc} {lsA : Array Slot} {Qf : State → Prop} {mc ms : Nat} {st0 rest : List Value} {a : Array Value} {Qz : Option PV → Nat → HP → Prop}
    (hr : va_Run p l e R s m args below meth c H locs ce sl mc ms (F0 m pc lsA st0) rest (pm_Q Qz D dA ad n (va_A (pm_w dA ad n h) H.size) a) (va_A (pm_w dA ad n h) H.size))
    (hP : va_P D vwCl (pm_w dA ad n h) H) (hD : va_D A (pm_w dA ad n h)) (hS : va_S A s.heap H locs) (hA : ∀ q, s.heap.size ≤ q → A q)
    (kk : ∀ (r : Option PV) (n' : Nat) (h' : HP) (ad' : Nat → Nat) (H1 : Heap) (locs1 : List Loc), Qz r n' h' → n ≤ n' → (∀ k, k < n → ad' k = ad k) → (n' = n → ad' = ad) → va_P D vwCl (pm_w dA ad' n' h') H1 → va_D A (pm_w dA ad' n' h') → va_S A s.heap H1 locs1 →
      W p l e R s m args below meth c H1 locs1 (ce + mc) (sl + ms) Qf (F0 m (pc + 3) lsA ((r.map (pm_v ad')).toList ++ rest))) : W p l e R s m args below meth c H locs ce sl Qf (F0 m pc lsA st0) := by
  have hF : ∀ q, va_A (pm_w dA ad n h) H.size q → A q := by
    intro q hq
    rcases hq with ⟨k, e, hk⟩ | hq
    · exact hD.2 k (q, e) hk
    · exact hA q (Nat.le_trans hS.1 hq)
  intro T hT X
  obtain ⟨v, st₀, t, T', L, h0, X', hL, e1, e2, ⟨⟨r, n', h', ad', hv, hq, hn, ha, hb, hP1, hK1, hD1⟩, hz, hk⟩, stp⟩ := hr T hT X
  cases hv
  rw [h0] at hz hk
  obtain ⟨t2, a1, b1⟩ := kk r n' h' ad' T'.heap (locs ++ L) hq hn ha hb (by rw [e1]; exact hP1) (hD1.weaken (fun _ _ _ z => hF _ z))
    ⟨Nat.le_trans hS.1 (by rw [e1]; exact hz), fun q h1 h2 => by rw [e1, hk q (Nat.lt_of_lt_of_le h1 hS.1) (fun z => h2 (hF q z))]; exact hS.2.1 q h1 h2, fun q hq => by
      rcases List.mem_append.mp hq with h | h
      · exact hS.2.2 q h
      · exact hF _ (hL q h)⟩ T' rfl X'
  exact ⟨t2, stp t2 a1, b1⟩
theorem ev_callS {idx : Nat} {z : MethodName} {cz : ByteArray} {nz : Nat} {rz : Option FieldType} {np fr lo mc ms : Nat} {av stk : List PV} {Qz : Option PV → Nat → HP → Prop} (hcon : Con l z cz nz rz fr lo mc ms av n h Qz) (hm : MS y.cls idx z cz nz rz np) (hd : decode cc pc = .ok (.invokestatic idx, 3)) (hst : stk = av.reverse ++ st) (hnp : av.length = np) (hcat : (st.map pcat).sum ≤ 8) (hR : fr + 1 ≤ R.frames ∧ 8 + (nz + 11) + lo ≤ R.locals) (hcs : ce + mc ≤ R.cells ∧ sl + ms ≤ R.slots)
    (hn : ∀ r n' h', Qz r n' h' → n' = n) (kk : ∀ r h', Qz r n h' → Ev l y cc nL rt R E Z n0 (pc + 3) ls (r.toList ++ st) n (ce + mc) (sl + ms) h') : Ev l y cc nL rt R E Z n0 pc ls stk n ce sl h := by
  intro p e s m args below meth c C D dA ad0 ad A H locs lsA a0 a1 a2 a3 hK hP hD hS hA hl
  subst hst
  refine pm_call (va_runS (As := av.map (pm_v ad)) (rest := st.map (pm_v ad)) ⟨C.1, C.2.1, C.2.2.2.1, C.2.2.2.2.1, C.2.2.2.2.2.1⟩ (hcon D dA ad H.size) ⟨mb_call C.2.2.2.2.2.1 hm.1 hR, C.2.2.2.2.2.1 _ hm.2⟩ ⟨pm_blind, fun U hU hW => ⟨rfl, by rw [hU], by rw [hU]; exact hP, pm_K.moved hW.alike hK, hD.weaken (fun _ _ _ _ => trivial)⟩⟩ rfl (by rw [List.length_map]; exact hnp) hl.1 (by simp [List.map_reverse]) (lv_room (by rw [pcat_map]; exact hcat)) hd hcs) hP hD hS hA ?_
  intro r n' h' ad' H1 locs1 hq hnn ha hb hP1 hD1 hS1
  have en := hn _ _ _ hq
  subst en
  have ea := hb rfl
  subst ea
  have := kk r h' hq p e s m args below meth c C D dA ad0 ad' A H1 locs1 lsA a0 a1 a2 a3 hK hP1 hD1 hS1 hA hl
  cases r <;> exact this
theorem ev_callV {idx ci : Nat} {z : MethodName} {cz : ByteArray} {nz : Nat} {rz : Option FieldType} {np fr lo mc ms b : Nat} {as stk fs : List PV} {Qz : Option PV → Nat → HP → Prop} (hcon : Con l z cz nz rz fr lo mc ms (vR b :: as) n h Qz) (hm : MV y.cls idx ci z cz nz rz np) (hd : decode cc pc = .ok (.invokevirtual idx, 3)) (hst : stk = as.reverse ++ vR b :: st) (hb : b < n) (hh : h b = kO ci fs) (hnp : as.length = np) (hcat : (st.map pcat).sum ≤ 8) (hR : fr + 1 ≤ R.frames ∧ 8 + (nz + 11) + lo ≤ R.locals) (hcs : ce + mc ≤ R.cells ∧ sl + ms ≤ R.slots)
    (hn : ∀ r n' h', Qz r n' h' → n' = n) (kk : ∀ r h', Qz r n h' → Ev l y cc nL rt R E Z n0 (pc + 3) ls (r.toList ++ st) n (ce + mc) (sl + ms) h') : Ev l y cc nL rt R E Z n0 pc ls stk n ce sl h := by
  intro p e s m args below meth c C D dA ad0 ad A H locs lsA a0 a1 a2 a3 hK hP hD hS hA hl
  subst hst
  obtain ⟨hmb, hin, hse, T, N, hcl⟩ := hm
  refine pm_call (va_runV (C := z.cls) (b := ad b) (As := as.map (pm_v ad)) (rest := st.map (pm_v ad)) ⟨C.1, C.2.1, C.2.2.2.1, C.2.2.2.2.1, C.2.2.2.2.2.1⟩ (hcon D dA ad H.size) ⟨mb_call C.2.2.2.2.2.1 hmb hR, C.2.2.2.2.2.1 _ hin, C.2.2.2.2.2.1 _ hse⟩ ⟨pm_blind, va_recv hK.1 hP hcl (q0 := b) (fs := fs.map (pm_v ad)) (by rw [pm_w_at hb, hh]; rfl), fun U hU hW => ⟨rfl, by rw [hU], by rw [hU]; exact hP, pm_K.moved hW.alike hK, hD.weaken (fun _ _ _ _ => trivial)⟩⟩ rfl (by rw [List.length_map]; exact hnp) hl.1 (by simp [List.map_reverse, pm_v, va_rf]) (lv_room (by rw [pcat_map]; exact hcat)) hd hcs) hP hD hS hA ?_
  intro r n' h' ad' H1 locs1 hq hnn ha hb hP1 hD1 hS1
  have en := hn _ _ _ hq
  subst en
  have ea := hb rfl
  subst ea
  have := kk r h' hq p e s m args below meth c C D dA ad0 ad' A H1 locs1 lsA a0 a1 a2 a3 hK hP1 hD1 hS1 hA hl
  cases r <;> exact this
/-- a constructor: it may make cells -/
theorem ev_callI {idx : Nat} {z : MethodName} {cz : ByteArray} {nz : Nat} {np fr lo mc ms b : Nat} {as stk : List PV} {Qz : Option PV → Nat → HP → Prop} (hcon : Con l z cz nz none fr lo mc ms (vR b :: as) n h Qz) (hm : MI y.cls idx z cz nz none np) (hd : decode cc pc = .ok (.invokespecial idx, 3)) (hst : stk = as.reverse ++ vR b :: st) (hnp : as.length = np) (hcat : (st.map pcat).sum ≤ 8) (hR : fr + 1 ≤ R.frames ∧ 8 + (nz + 11) + lo ≤ R.locals) (hcs : ce + mc ≤ R.cells ∧ sl + ms ≤ R.slots)
    (hok : oks n st) (hol : okl n ls) (hn : ∀ r n' h', Qz r n' h' → r = none) (kk : ∀ n' h', n ≤ n' → Qz none n' h' → Ev l y cc nL rt R E Z n0 (pc + 3) ls st n' (ce + mc) (sl + ms) h') : Ev l y cc nL rt R E Z n0 pc ls stk n ce sl h := by
  intro p e s m args below meth c C D dA ad0 ad A H locs lsA a0 a1 a2 a3 hK hP hD hS hA hl
  subst hst
  obtain ⟨hmb, hin, hnm, -⟩ := hm
  refine pm_call (va_runI (b := ad b) (As := as.map (pm_v ad)) (rest := st.map (pm_v ad)) ⟨C.1, C.2.1, C.2.2.2.1, C.2.2.2.2.1, C.2.2.2.2.2.1⟩ (hcon D dA ad H.size) ⟨mb_call C.2.2.2.2.2.1 hmb hR, hnm, C.2.2.2.2.2.1 _ hin⟩ ⟨pm_blind, fun U hU hW => ⟨rfl, by rw [hU], by rw [hU]; exact hP, pm_K.moved hW.alike hK, hD.weaken (fun _ _ _ _ => trivial)⟩⟩ rfl (by rw [List.length_map]; exact hnp) hl.1 (by simp [List.map_reverse, pm_v, va_rf]) (lv_room (by rw [pcat_map]; exact hcat)) hd hcs) hP hD hS hA ?_
  intro r n' h' ad' H1 locs1 hq hnn ha hb hP1 hD1 hS1
  have er := hn _ _ _ hq
  subst er
  have := kk n' h' hnn hq p e s m args below meth c C D dA ad0 ad' A H1 locs1 lsA a0 (Nat.le_trans a1 hnn) (fun k hk => (ha k (Nat.lt_of_lt_of_le hk a1)).trans (a2 k hk)) (fun e => by
    have e1 : n' = n := by omega
    have e2 : n = n0 := by omega
    rw [hb e1, a3 e2]) hK hP1 hD1 hS1 hA (lvs_eq (fun i v hv => okl_at hol i v hv) (fun k hk => (ha k hk).symm) hl)
  rw [← oks_map (fun k hk => (ha k hk).symm) hok] at this
  exact this
/-- returns -/
theorem ev_iret {Q : Option PV → Nat → HP → Prop} {mc ms : Nat} {x : Int} (hrt : rt = some .int) (hd : decode cc pc = .ok (.ireturn, 1)) (hq : Q (some (vI x)) n h) (hce : ce ≤ mc) (hsl : sl ≤ ms) : Ev l y cc nL rt R E (zM Q n0 mc ms) n0 pc ls [vI x] n ce sl h := by
  intro p e s m args below meth c C D dA ad0 ad A H locs lsA a0 a1 a2 a3 hK hP hD hS hA hl
  refine W.widen hce hsl ?_
  exact W.iret (v := Int32.ofInt x) C.1 C.2.1 (C.2.2.1.trans hrt) (fun t ht hW => ⟨⟨some (vI x), n, h, ad, rfl, hq, a1, a2, a3, by rw [ht]; exact hP, pm_K.moved hW.alike hK, hD⟩, hS.F ht⟩) hS.2.2 hd C.2.2.2.2.2.2.1
theorem ev_zret {Q : Option PV → Nat → HP → Prop} {mc ms : Nat} {x : Int} (hrt : rt = some .boolean) (hx : x = 0 ∨ x = 1) (hd : decode cc pc = .ok (.ireturn, 1)) (hq : Q (some (vI x)) n h) (hce : ce ≤ mc) (hsl : sl ≤ ms) : Ev l y cc nL rt R E (zM Q n0 mc ms) n0 pc ls [vI x] n ce sl h := by
  intro p e s m args below meth c C D dA ad0 ad A H locs lsA a0 a1 a2 a3 hK hP hD hS hA hl
  refine W.widen hce hsl ?_
  exact W.zret (v := Int32.ofInt x) (ty := .boolean) C.1 C.2.1 (C.2.2.1.trans hrt) (okT_Z hx (fun _ => 0)).1 (fun t ht hW => ⟨⟨some (vI x), n, h, ad, rfl, hq, a1, a2, a3, by rw [ht]; exact hP, pm_K.moved hW.alike hK, hD⟩, hS.F ht⟩) hS.2.2 hd C.2.2.2.2.2.2.1
theorem ev_lret {Q : Option PV → Nat → HP → Prop} {mc ms : Nat} {x : Int} (hrt : rt = some .long) (hd : decode cc pc = .ok (.lreturn, 1)) (hq : Q (some (vL x)) n h) (hce : ce ≤ mc) (hsl : sl ≤ ms) : Ev l y cc nL rt R E (zM Q n0 mc ms) n0 pc ls [vL x] n ce sl h := by
  intro p e s m args below meth c C D dA ad0 ad A H locs lsA a0 a1 a2 a3 hK hP hD hS hA hl
  refine W.widen hce hsl ?_
  exact W.lret (v := Int64.ofInt x) C.1 C.2.1 (C.2.2.1.trans hrt) (fun t ht hW => ⟨⟨some (vL x), n, h, ad, rfl, hq, a1, a2, a3, by rw [ht]; exact hP, pm_K.moved hW.alike hK, hD⟩, hS.F ht⟩) hS.2.2 hd C.2.2.2.2.2.2.1
theorem ev_vret {Q : Option PV → Nat → HP → Prop} {mc ms : Nat} (hrt : rt = none) (hd : decode cc pc = .ok (.return_, 1)) (hq : Q none n h) (hce : ce ≤ mc) (hsl : sl ≤ ms) : Ev l y cc nL rt R E (zM Q n0 mc ms) n0 pc ls [] n ce sl h := by
  intro p e s m args below meth c C D dA ad0 ad A H locs lsA a0 a1 a2 a3 hK hP hD hS hA hl
  refine W.widen hce hsl ?_
  exact W.vret C.1 C.2.1 (C.2.2.1.trans hrt) (fun t ht hW => ⟨⟨none, n, h, ad, rfl, hq, a1, a2, a3, by rw [ht]; exact hP, pm_K.moved hW.alike hK, hD⟩, hS.F ht⟩) hS.2.2 hd C.2.2.2.2.2.2.1
end EC
end
section
/-! THE MEMORY after the constructors: cell k's field or place j holds M k j; references never change -/
abbrev Mem : Type := Nat → Nat → Int
abbrev FT : Type := Nat ⊕ Nat
abbrev LT : Type := (Nat × Nat) ⊕ (Nat × Nat × (Nat → Option Nat)) ⊕ (Nat × List FT)
def pvt (t : Nat) (x : Int) : PV := if t = 1 then vL x else vI x
def flds (m : Nat → Int) : Nat → List FT → List PV
  | _, [] => []
  | i, Sum.inl t :: r => pvt t (m i) :: flds m (i + 1) r
  | i, Sum.inr q :: r => vR q :: flds m (i + 1) r
abbrev lTrk (k : Nat) : LT := .inr (.inr (4, [.inl 0, .inl 0, .inl 0, .inl 0, .inl 0, .inl 0, .inl 2, .inr (k + 1)]))
abbrev lFrc : LT := .inr (.inr (2, [.inl 1, .inl 1]))
def lay (k : Nat) : LT :=
  if k = 0 then .inr (.inr (5, [.inr 1, .inr 18, .inr 19, .inr 50, .inr 52, .inl 0, .inl 2]))
  else if k = 1 then .inr (.inl (0, 8, fun i => if i < 8 then some (2 + 2 * i) else none))
  else if k < 18 then (if k % 2 = 0 then lTrk k else .inl (0, 9))
  else if k = 18 then .inr (.inr (1, [.inl 2, .inl 1, .inl 1, .inl 1]))
  else if k = 19 then .inr (.inr (0, [.inr 20, .inl 0, .inl 0, .inl 0, .inl 1, .inr 29, .inr 38, .inr 39, .inr 40, .inr 49, .inl 1, .inl 1]))
  else if k = 20 then .inr (.inl (1, 8, fun i => if i < 8 then some (21 + i) else none))
  else if k < 29 then lFrc
  else if k = 29 then .inr (.inl (2, 8, fun i => if i < 8 then some (30 + i) else none))
  else if k < 40 then .inl (0, 8)
  else if k = 40 then .inr (.inl (3, 8, fun i => if i < 8 then some (41 + i) else none))
  else if k < 50 then .inl (1, 8)
  else if k = 50 then .inr (.inr (3, [.inr 51, .inl 0]))
  else if k = 51 then .inl (0, 6)
  else if k = 52 then lFrc
  else if k = 53 then .inr (.inr (6, [.inl 0, .inr 54, .inr 55, .inr 56, .inl 0, .inr 57, .inl 1, .inl 1, .inl 1, .inl 1, .inl 1, .inr 58, .inr 59, .inr 60, .inr 61, .inr 62, .inl 1, .inl 1]))
  else if k = 54 then .inl (0, 48)
  else if k = 55 then .inl (0, 72)
  else if k = 56 then .inl (2, 8)
  else if k = 57 then .inl (0, 6)
  else if k = 58 then .inl (0, 8)
  else if k = 59 then .inl (0, 8)
  else if k = 60 then .inl (1, 64)
  else .inl (1, 8)
def hp (M : Mem) : HP := fun k => match lay k with
  | Sum.inl (t, n) => Sum.inl (t, n, M k)
  | Sum.inr (Sum.inl (t, n, f)) => kQ t n f
  | Sum.inr (Sum.inr (c, ts)) => kO c (flds (M k) 0 ts)
theorem lay_trk {i : Nat} (h : i < 8) : lay (2 + 2 * i) = lTrk (2 + 2 * i) := by
  unfold lay
  rw [if_neg (by omega), if_neg (by omega), if_pos (by omega), if_pos (by omega)]
theorem lay_hts {i : Nat} (h : i < 8) : lay (2 + 2 * i + 1) = .inl (0, 9) := by
  unfold lay
  rw [if_neg (by omega), if_neg (by omega), if_pos (by omega), if_neg (by omega)]
theorem lay_frc {i : Nat} (h : i < 8) : lay (21 + i) = lFrc := by
  unfold lay
  rw [if_neg (by omega), if_neg (by omega), if_neg (by omega), if_neg (by omega), if_neg (by omega), if_neg (by omega), if_pos (by omega)]
theorem lay_dif {i : Nat} (h : i < 8) : lay (30 + i) = .inl (0, 8) := by
  unfold lay
  rw [if_neg (by omega), if_neg (by omega), if_neg (by omega), if_neg (by omega), if_neg (by omega), if_neg (by omega), if_neg (by omega), if_neg (by omega), if_pos (by omega)]
theorem lay_row {i : Nat} (h : i < 8) : lay (41 + i) = .inl (1, 8) := by
  unfold lay
  rw [if_neg (by omega), if_neg (by omega), if_neg (by omega), if_neg (by omega), if_neg (by omega), if_neg (by omega), if_neg (by omega), if_neg (by omega), if_neg (by omega), if_neg (by omega), if_pos (by omega)]
theorem hp_obj {M : Mem} {k c : Nat} {ts : List FT} (h : lay k = .inr (.inr (c, ts))) : hp M k = kO c (flds (M k) 0 ts) := by unfold hp; rw [h]
theorem hp_arr {M : Mem} {k t n : Nat} (h : lay k = .inl (t, n)) : hp M k = Sum.inl (t, n, M k) := by unfold hp; rw [h]
theorem hp_ref {M : Mem} {k t n : Nat} {f : Nat → Option Nat} (h : lay k = .inr (.inl (t, n, f))) : hp M k = kQ t n f := by unfold hp; rw [h]
theorem flds_get (m : Nat → Int) : ∀ (ts : List FT) (i k : Nat), (flds m i ts)[k]? = (ts[k]?).map (fun t => match t with | Sum.inl t => pvt t (m (i + k)) | Sum.inr q => vR q)
  | [], i, k => by simp [flds]
  | Sum.inl t :: r, i, 0 => rfl
  | Sum.inr q :: r, i, 0 => rfl
  | Sum.inl t :: r, i, k + 1 => by
    have := flds_get m r (i + 1) k
    rw [show i + (k + 1) = i + 1 + k by omega]
    exact this
  | Sum.inr q :: r, i, k + 1 => by
    have := flds_get m r (i + 1) k
    rw [show i + (k + 1) = i + 1 + k by omega]
    exact this
theorem flds_len (m : Nat → Int) : ∀ (ts : List FT) (i : Nat), (flds m i ts).length = ts.length
  | [], _ => rfl
  | Sum.inl t :: r, i => by simp [flds, flds_len m r]
  | Sum.inr q :: r, i => by simp [flds, flds_len m r]
theorem flds_keep (m : Nat → Int) (j : Nat) (x : Int) : ∀ (ts : List FT) (i : Nat), j < i → flds (va_up m j x) i ts = flds m i ts
  | [], _, _ => rfl
  | Sum.inl t :: r, i, h => by simp only [flds]; rw [flds_keep m j x r (i + 1) (by omega), va_up_ne _ _ (by omega)]
  | Sum.inr q :: r, i, h => by simp only [flds]; rw [flds_keep m j x r (i + 1) (by omega)]
theorem flds_set (m : Nat → Int) (x : Int) {t : Nat} : ∀ (ts : List FT) (i k : Nat), ts[k]? = some (.inl t) → (flds m i ts).set k (pvt t x) = flds (va_up m (i + k) x) i ts
  | [], i, k, h => by simp at h
  | Sum.inl t' :: r, i, 0, h => by
    cases h
    simp only [flds, List.set, Nat.add_zero]
    rw [flds_keep m i x r (i + 1) (by omega), va_up_self]
  | Sum.inr q :: r, i, 0, h => by cases h
  | Sum.inl t' :: r, i, k + 1, h => by
    have := flds_set m x r (i + 1) k h
    simp only [flds, List.set]
    rw [this, show i + (k + 1) = i + 1 + k by omega, va_up_ne _ _ (by omega)]
  | Sum.inr q :: r, i, k + 1, h => by
    have := flds_set m x r (i + 1) k h
    simp only [flds, List.set]
    rw [this, show i + (k + 1) = i + 1 + k by omega]
def up2 (M : Mem) (r k : Nat) (x : Int) : Mem := va_up M r (va_up (M r) k x)
theorem up2_at (M : Mem) (r k : Nat) (x : Int) (a b : Nat) : up2 M r k x a b = if a = r ∧ b = k then x else M a b := by
  unfold up2
  by_cases h : a = r
  · subst h
    rw [va_up_self]
    by_cases h2 : b = k
    · subst h2; rw [va_up_self]; simp
    · rw [va_up_ne _ _ h2]; simp [h2]
  · rw [va_up_ne _ _ h]; simp [h]
theorem up2_row (M : Mem) (r k : Nat) (x : Int) {a : Nat} (h : a ≠ r) : up2 M r k x a = M a := by unfold up2; rw [va_up_ne _ _ h]
theorem up2_same (M : Mem) (r k : Nat) (x : Int) : up2 M r k x r k = x := by rw [up2_at]; simp
theorem up2_ne (M : Mem) (r k : Nat) (x : Int) {a b : Nat} (h : a ≠ r ∨ b ≠ k) : up2 M r k x a b = M a b := by
  rw [up2_at, if_neg]
  omega
theorem hp_up {M : Mem} {r k : Nat} {x : Int} {c : PK} (hc : hp (up2 M r k x) r = c) : va_up (hp M) r c = hp (up2 M r k x) := by
  funext j
  by_cases h : j = r
  · subst h; rw [va_up_self, hc]
  · rw [va_up_ne _ _ h]
    unfold hp
    rw [up2_row _ _ _ _ h]
abbrev QM : Type := Option PV → Mem → Prop
def qN (Q : QM) : Option PV → Nat → HP → Prop := fun r n' h' => n' = 63 ∧ ∃ M', (∀ k, k < 63 → h' k = hp M' k) ∧ Q r M'
abbrev rmm (fr lo : Nat) : Room := { frames := fr, cells := 0, slots := 0, locals := lo }
abbrev Em (l : Launch) (y : MethodName) (cc : ByteArray) (nL : Nat) (rt : Option FieldType) (fr lo : Nat) (Q : QM) (pc : Nat) (ls : List (Option PV)) (st : List PV) (M : Mem) : Prop := Ev l y cc nL rt (rmm fr lo) eT (zM (qN Q) 63 0 0) 63 pc ls st 63 0 0 (hp M)
def Cm (l : Launch) (y : MethodName) (cc : ByteArray) (nL : Nat) (rt : Option FieldType) (fr lo : Nat) (av : List PV) (M : Mem) (Q : QM) : Prop := Con l y cc nL rt fr lo 0 0 av 63 (hp M) (qN Q)
theorem cm_of {l : Launch} {y : MethodName} {cc : ByteArray} {nL : Nat} {rt : Option FieldType} {fr lo : Nat} {av : List PV} {M : Mem} {Q : QM} (ls : List (Option PV)) (k : Em l y cc nL rt fr lo Q 0 ls [] M) (hpl : plainName y.cls = true := by decide +kernel) (hlen : (enl av).length ≤ nL := by decide) (hls : enl av ++ List.replicate (nL - (enl av).length) none = ls := by rfl) : Cm l y cc nL rt fr lo av M Q :=
  con_of ls hpl hlen hls k
theorem cm_imp {l : Launch} {y : MethodName} {cc : ByteArray} {nL : Nat} {rt : Option FieldType} {fr lo : Nat} {av : List PV} {M : Mem} {Q Q' : QM} (hq : ∀ r M', Q r M' → Q' r M') (h : Cm l y cc nL rt fr lo av M Q) : Cm l y cc nL rt fr lo av M Q' := by
  intro D dA ad sz
  have := h D dA ad sz
  intro p e a1 a2 a3 s m args below b1 b2 b3 b4
  obtain ⟨t, o, c1, c2, c3, c4, c5⟩ := this p e a1 a2 a3 s m args below b1 b2 b3 b4
  refine ⟨t, o, c1, c2, c3, ?_, c5⟩
  obtain ⟨⟨r, n', h', ad', d1, ⟨d2, M', d3, d4⟩, d5⟩, d6⟩ := c4
  exact ⟨⟨r, n', h', ad', d1, ⟨d2, M', d3, hq r M' d4⟩, d5⟩, d6⟩
section EM
variable {l : Launch} {y : MethodName} {cc : ByteArray} {nL : Nat} {rt : Option FieldType} {R : Room} {E : EE} {Z : ZZ} {n0 pc : Nat} {ls : List (Option PV)} {st : List PV} {ce sl : Nat} {M : Mem}
theorem em_getI {idx ci k : Nat} (hf : FG y.cls idx ci k) (hd : decode cc pc = .ok (.getfield idx, 3)) {r t : Nat} {ts : List FT} (hl : lay r = .inr (.inr (ci, ts))) (hk : ts[k]? = some (.inl t)) (kk : Ev l y cc nL rt R E Z n0 (pc + 3) ls (vI (M r k) :: st) 63 ce sl (hp M)) (ht : t ≠ 1 := by decide) (hr : r < 63 := by omega) : Ev l y cc nL rt R E Z n0 pc ls (vR r :: st) 63 ce sl (hp M) :=
  ev_get hf hd hr (hp_obj hl) (v := vI (M r k)) (by rw [flds_get, hk, Nat.zero_add]; simp [pvt, ht]) kk
theorem em_getL {idx ci k : Nat} (hf : FG y.cls idx ci k) (hd : decode cc pc = .ok (.getfield idx, 3)) {r : Nat} {ts : List FT} (hl : lay r = .inr (.inr (ci, ts))) (hk : ts[k]? = some (.inl 1)) (kk : Ev l y cc nL rt R E Z n0 (pc + 3) ls (vL (M r k) :: st) 63 ce sl (hp M)) (hr : r < 63 := by omega) : Ev l y cc nL rt R E Z n0 pc ls (vR r :: st) 63 ce sl (hp M) :=
  ev_get hf hd hr (hp_obj hl) (v := vL (M r k)) (by rw [flds_get, hk, Nat.zero_add]; rfl) kk
theorem em_getR {idx ci k : Nat} (hf : FG y.cls idx ci k) (hd : decode cc pc = .ok (.getfield idx, 3)) {r q : Nat} {ts : List FT} (hl : lay r = .inr (.inr (ci, ts))) (hk : ts[k]? = some (.inr q)) (kk : Ev l y cc nL rt R E Z n0 (pc + 3) ls (vR q :: st) 63 ce sl (hp M)) (hr : r < 63 := by omega) : Ev l y cc nL rt R E Z n0 pc ls (vR r :: st) 63 ce sl (hp M) :=
  ev_get hf hd hr (hp_obj hl) (v := vR q) (by rw [flds_get, hk]; rfl) kk
theorem em_put {idx ci k : Nat} {ty : FieldType} (hf : FL y.cls idx ci k ty false) (hd : decode cc pc = .ok (.putfield idx, 3)) {r t : Nat} {ts : List FT} {x : Int} {v : PV} (hl : lay r = .inr (.inr (ci, ts))) (hk : ts[k]? = some (.inl t)) (hx : pvt t x = v) (hv : okT ty v) (kk : Ev l y cc nL rt R E Z n0 (pc + 3) ls st 63 ce sl (hp (up2 M r k x))) (hr : r < 63 := by omega) : Ev l y cc nL rt R E Z n0 pc ls (v :: vR r :: st) 63 ce sl (hp M) := by
  refine ev_put hf hd hr (hp_obj hl) hv (by rw [flds_len]; exact (List.getElem?_eq_some_iff.mp hk).1) ?_
  rw [hp_up (k := k) (x := x)]
  · exact kk
  · rw [hp_obj hl, ← hx, flds_set _ _ _ _ _ hk, Nat.zero_add]
    congr 1
    unfold up2
    rw [va_up_self]
theorem em_putI {idx ci k : Nat} (hf : FL y.cls idx ci k .int false) (hd : decode cc pc = .ok (.putfield idx, 3)) {r t : Nat} {ts : List FT} {x : Int} (hl : lay r = .inr (.inr (ci, ts))) (hk : ts[k]? = some (.inl t)) (kk : Ev l y cc nL rt R E Z n0 (pc + 3) ls st 63 ce sl (hp (up2 M r k x))) (ht : t ≠ 1 := by decide) (hr : r < 63 := by omega) : Ev l y cc nL rt R E Z n0 pc ls (vI x :: vR r :: st) 63 ce sl (hp M) :=
  em_put hf hd hl hk (by simp [pvt, ht]) (okT_I x) kk hr
theorem em_putZ {idx ci k : Nat} (hf : FL y.cls idx ci k .boolean false) (hd : decode cc pc = .ok (.putfield idx, 3)) {r t : Nat} {ts : List FT} {x : Int} (hl : lay r = .inr (.inr (ci, ts))) (hk : ts[k]? = some (.inl t)) (hx : x = 0 ∨ x = 1) (kk : Ev l y cc nL rt R E Z n0 (pc + 3) ls st 63 ce sl (hp (up2 M r k x))) (ht : t ≠ 1 := by decide) (hr : r < 63 := by omega) : Ev l y cc nL rt R E Z n0 pc ls (vI x :: vR r :: st) 63 ce sl (hp M) :=
  em_put hf hd hl hk (by simp [pvt, ht]) (okT_Z hx) kk hr
theorem em_putL {idx ci k : Nat} (hf : FL y.cls idx ci k .long false) (hd : decode cc pc = .ok (.putfield idx, 3)) {r : Nat} {ts : List FT} {x : Int} (hl : lay r = .inr (.inr (ci, ts))) (hk : ts[k]? = some (.inl 1)) (kk : Ev l y cc nL rt R E Z n0 (pc + 3) ls st 63 ce sl (hp (up2 M r k x))) (hr : r < 63 := by omega) : Ev l y cc nL rt R E Z n0 pc ls (vL x :: vR r :: st) 63 ce sl (hp M) :=
  em_put hf hd hl hk rfl (okT_L x) kk hr
theorem em_iald (hd : decode cc pc = .ok (.iaload, 1)) {r m : Nat} {z : Int} (hl : lay r = .inl (0, m)) (hz : 0 ≤ z ∧ z < (m : Int)) (kk : Ev l y cc nL rt R E Z n0 (pc + 1) ls (vI (M r z.toNat) :: st) 63 ce sl (hp M)) (hm : m < 2147483648 := by decide) (hr : r < 63 := by omega) : Ev l y cc nL rt R E Z n0 pc ls (vI z :: vR r :: st) 63 ce sl (hp M) :=
  ev_iald hd hr (hp_arr hl) hz kk hm
theorem em_zald (hd : decode cc pc = .ok (.baload, 1)) {r m : Nat} {z : Int} (hl : lay r = .inl (2, m)) (hz : 0 ≤ z ∧ z < (m : Int)) (kk : Ev l y cc nL rt R E Z n0 (pc + 1) ls (vI (M r z.toNat) :: st) 63 ce sl (hp M)) (hm : m < 2147483648 := by decide) (hr : r < 63 := by omega) : Ev l y cc nL rt R E Z n0 pc ls (vI z :: vR r :: st) 63 ce sl (hp M) :=
  ev_zald hd hr (hp_arr hl) hz kk hm
theorem em_lald (hd : decode cc pc = .ok (.laload, 1)) {r m : Nat} {z : Int} (hl : lay r = .inl (1, m)) (hz : 0 ≤ z ∧ z < (m : Int)) (kk : Ev l y cc nL rt R E Z n0 (pc + 1) ls (vL (M r z.toNat) :: st) 63 ce sl (hp M)) (hm : m < 2147483648 := by decide) (hr : r < 63 := by omega) : Ev l y cc nL rt R E Z n0 pc ls (vI z :: vR r :: st) 63 ce sl (hp M) :=
  ev_lald hd hr (hp_arr hl) hz kk hm
theorem em_aald (hd : decode cc pc = .ok (.aaload, 1)) {r t m j : Nat} {f : Nat → Option Nat} {z : Int} (hl : lay r = .inr (.inl (t, m, f))) (hz : 0 ≤ z ∧ z < (m : Int)) (hj : f z.toNat = some j) (kk : Ev l y cc nL rt R E Z n0 (pc + 1) ls (vR j :: st) 63 ce sl (hp M)) (hm : m < 2147483648 := by decide) (ht : t < 4 := by decide) (hr : r < 63 := by omega) : Ev l y cc nL rt R E Z n0 pc ls (vI z :: vR r :: st) 63 ce sl (hp M) :=
  ev_aald hd hr (hp_ref hl) hz hj kk hm ht
theorem hp_upA {M : Mem} {r t m k : Nat} {x : Int} (hl : lay r = .inl (t, m)) : va_up (hp M) r (Sum.inl (t, m, va_up (M r) k x)) = hp (up2 M r k x) := by
  refine hp_up ?_
  rw [hp_arr hl]
  unfold up2
  rw [va_up_self]
theorem em_iast (hd : decode cc pc = .ok (.iastore, 1)) {r m : Nat} {z x : Int} (hl : lay r = .inl (0, m)) (hz : 0 ≤ z ∧ z < (m : Int)) (kk : Ev l y cc nL rt R E Z n0 (pc + 1) ls st 63 ce sl (hp (up2 M r z.toNat x))) (hm : m < 2147483648 := by decide) (hr : r < 63 := by omega) : Ev l y cc nL rt R E Z n0 pc ls (vI x :: vI z :: vR r :: st) 63 ce sl (hp M) :=
  ev_iast hd hr (hp_arr hl) hz (by rw [hp_upA hl]; exact kk) hm
theorem em_last (hd : decode cc pc = .ok (.lastore, 1)) {r m : Nat} {z x : Int} (hl : lay r = .inl (1, m)) (hz : 0 ≤ z ∧ z < (m : Int)) (kk : Ev l y cc nL rt R E Z n0 (pc + 1) ls st 63 ce sl (hp (up2 M r z.toNat x))) (hm : m < 2147483648 := by decide) (hr : r < 63 := by omega) : Ev l y cc nL rt R E Z n0 pc ls (vL x :: vI z :: vR r :: st) 63 ce sl (hp M) :=
  ev_last hd hr (hp_arr hl) hz (by rw [hp_upA hl]; exact kk) hm
theorem em_zast (hd : decode cc pc = .ok (.bastore, 1)) {r m : Nat} {z x : Int} (hl : lay r = .inl (2, m)) (hz : 0 ≤ z ∧ z < (m : Int)) (hx : x = 0 ∨ x = 1) (kk : Ev l y cc nL rt R E Z n0 (pc + 1) ls st 63 ce sl (hp (up2 M r z.toNat x))) (hm : m < 2147483648 := by decide) (hr : r < 63 := by omega) : Ev l y cc nL rt R E Z n0 pc ls (vI x :: vI z :: vR r :: st) 63 ce sl (hp M) :=
  ev_zast hd hr (hp_arr hl) hz hx (by rw [hp_upA hl]; exact kk) hm
theorem em_callS {idx : Nat} {z : MethodName} {cz : ByteArray} {nz : Nat} {rz : Option FieldType} {np fr lo : Nat} {stk : List PV} {Qz : QM} (av st : List PV) (hcon : Cm l z cz nz rz fr lo av M Qz) (hm : MS y.cls idx z cz nz rz np) (hd : decode cc pc = .ok (.invokestatic idx, 3))
    (kk : ∀ r M', Qz r M' → Ev l y cc nL rt R E Z n0 (pc + 3) ls (r.toList ++ st) 63 ce sl (hp M')) (hR : fr + 1 ≤ R.frames ∧ 8 + (nz + 11) + lo ≤ R.locals := by decide) (hcs : ce ≤ R.cells ∧ sl ≤ R.slots := by decide) (hst : stk = av.reverse ++ st := by rfl) (hnp : av.length = np := by rfl) (hcat : (st.map pcat).sum ≤ 8 := by simp [pcat]) : Ev l y cc nL rt R E Z n0 pc ls stk 63 ce sl (hp M) :=
  ev_callS hcon hm hd hst hnp hcat hR hcs (fun r n' h' q => q.1) (fun r h' q => by
    obtain ⟨-, M', h1, h2⟩ := q
    exact ev_congr h1 (kk r M' h2))
theorem em_callV {idx ci b : Nat} {z : MethodName} {cz : ByteArray} {nz : Nat} {rz : Option FieldType} {np fr lo : Nat} {stk : List PV} {ts : List FT} {Qz : QM} (as st : List PV) (hcon : Cm l z cz nz rz fr lo (vR b :: as) M Qz) (hm : MV y.cls idx ci z cz nz rz np) (hd : decode cc pc = .ok (.invokevirtual idx, 3)) (hl : lay b = .inr (.inr (ci, ts)))
    (kk : ∀ r M', Qz r M' → Ev l y cc nL rt R E Z n0 (pc + 3) ls (r.toList ++ st) 63 ce sl (hp M')) (hR : fr + 1 ≤ R.frames ∧ 8 + (nz + 11) + lo ≤ R.locals := by decide) (hcs : ce ≤ R.cells ∧ sl ≤ R.slots := by decide) (hb : b < 63 := by omega) (hst : stk = as.reverse ++ vR b :: st := by rfl) (hnp : as.length = np := by rfl) (hcat : (st.map pcat).sum ≤ 8 := by simp [pcat]) : Ev l y cc nL rt R E Z n0 pc ls stk 63 ce sl (hp M) :=
  ev_callV hcon hm hd hst hb (hp_obj hl) hnp hcat hR hcs (fun r n' h' q => q.1) (fun r h' q => by
    obtain ⟨-, M', h1, h2⟩ := q
    exact ev_congr h1 (kk r M' h2))
theorem em_iret {fr lo : Nat} {Q : QM} {x : Int} (hd : decode cc pc = .ok (.ireturn, 1)) (hq : Q (some (vI x)) M) : Em l y cc nL (some .int) fr lo Q pc ls [vI x] M :=
  ev_iret rfl hd ⟨rfl, M, fun _ _ => rfl, hq⟩ (Nat.le_refl _) (Nat.le_refl _)
theorem em_zret {fr lo : Nat} {Q : QM} {x : Int} (hd : decode cc pc = .ok (.ireturn, 1)) (hx : x = 0 ∨ x = 1) (hq : Q (some (vI x)) M) : Em l y cc nL (some .boolean) fr lo Q pc ls [vI x] M :=
  ev_zret rfl hx hd ⟨rfl, M, fun _ _ => rfl, hq⟩ (Nat.le_refl _) (Nat.le_refl _)
theorem em_lret {fr lo : Nat} {Q : QM} {x : Int} (hd : decode cc pc = .ok (.lreturn, 1)) (hq : Q (some (vL x)) M) : Em l y cc nL (some .long) fr lo Q pc ls [vL x] M :=
  ev_lret rfl hd ⟨rfl, M, fun _ _ => rfl, hq⟩ (Nat.le_refl _) (Nat.le_refl _)
theorem em_vret {fr lo : Nat} {Q : QM} (hd : decode cc pc = .ok (.return_, 1)) (hq : Q none M) : Em l y cc nL none fr lo Q pc ls [] M :=
  ev_vret rfl hd ⟨rfl, M, fun _ _ => rfl, hq⟩ (Nat.le_refl _) (Nat.le_refl _)
end EM
end
section
/-! links: fields, methods, constants, by program -/
theorem inT0 : ∀ w ∈ wsX00, w ∈ tbw := by decide +kernel
theorem inT1 : ∀ w ∈ wsX10, w ∈ tbw := by decide +kernel
theorem inT2 : ∀ w ∈ wsX20, w ∈ tbw := by decide +kernel
theorem inT3 : ∀ w ∈ wsX30, w ∈ tbw := by decide +kernel
theorem inT4 : ∀ w ∈ wsX40, w ∈ tbw := by decide +kernel
theorem inT5 : ∀ w ∈ wsX50, w ∈ tbw := by decide +kernel
theorem inT6 : ∀ w ∈ wsX60, w ∈ tbw := by decide +kernel
theorem fX0_11 : FL RX0 11 0 0 (.array (.object "TrackCrossings$Fraction")) true := ⟨RX0, TX0, 12, tyX0, rfl, inT0, by decide, tb_at 104 (by decide +kernel) rfl, rfl, tyX0_ok, nmX0, tyX0_ok 0 (by decide), fun _ => rfl⟩
theorem fX0_20 : FL RX0 20 0 5 (.array (.array .int)) true := ⟨RX0, TX0, 12, tyX0, rfl, inT0, by decide, tb_at 114 (by decide +kernel) rfl, rfl, tyX0_ok, nmX0, tyX0_ok 5 (by decide), fun _ => rfl⟩
theorem fX0_23 : FL RX0 23 0 6 (.array .int) true := ⟨RX0, TX0, 12, tyX0, rfl, inT0, by decide, tb_at 115 (by decide +kernel) rfl, rfl, tyX0_ok, nmX0, tyX0_ok 6 (by decide), fun _ => rfl⟩
theorem fX0_27 : FL RX0 27 0 7 (.array .int) true := ⟨RX0, TX0, 12, tyX0, rfl, inT0, by decide, tb_at 116 (by decide +kernel) rfl, rfl, tyX0_ok, nmX0, tyX0_ok 7 (by decide), fun _ => rfl⟩
theorem fX0_32 : FL RX0 32 0 8 (.array (.array .long)) true := ⟨RX0, TX0, 12, tyX0, rfl, inT0, by decide, tb_at 117 (by decide +kernel) rfl, rfl, tyX0_ok, nmX0, tyX0_ok 8 (by decide), fun _ => rfl⟩
theorem fX0_35 : FL RX0 35 0 9 (.array .long) true := ⟨RX0, TX0, 12, tyX0, rfl, inT0, by decide, tb_at 118 (by decide +kernel) rfl, rfl, tyX0_ok, nmX0, tyX0_ok 9 (by decide), fun _ => rfl⟩
theorem fX0_39 : FL RX0 39 0 10 .long false := ⟨RX0, TX0, 12, tyX0, rfl, inT0, by decide, tb_at 119 (by decide +kernel) rfl, rfl, tyX0_ok, nmX0, tyX0_ok 10 (by decide), by decide⟩
theorem fX0_43 : FL RX0 43 0 11 .long false := ⟨RX0, TX0, 12, tyX0, rfl, inT0, by decide, tb_at 120 (by decide +kernel) rfl, rfl, tyX0_ok, nmX0, tyX0_ok 11 (by decide), by decide⟩
theorem fX0_67 : FL RX0 67 0 4 .long false := ⟨RX0, TX0, 12, tyX0, rfl, inT0, by decide, tb_at 112 (by decide +kernel) rfl, rfl, tyX0_ok, nmX0, tyX0_ok 4 (by decide), by decide⟩
theorem fX0_76 : FL RX0 76 0 1 .int false := ⟨RX0, TX0, 12, tyX0, rfl, inT0, by decide, tb_at 106 (by decide +kernel) rfl, rfl, tyX0_ok, nmX0, tyX0_ok 1 (by decide), by decide⟩
theorem fX0_80 : FL RX0 80 0 2 .int false := ⟨RX0, TX0, 12, tyX0, rfl, inT0, by decide, tb_at 108 (by decide +kernel) rfl, rfl, tyX0_ok, nmX0, tyX0_ok 2 (by decide), by decide⟩
theorem fX0_83 : FL RX0 83 0 3 .int false := ⟨RX0, TX0, 12, tyX0, rfl, inT0, by decide, tb_at 110 (by decide +kernel) rfl, rfl, tyX0_ok, nmX0, tyX0_ok 3 (by decide), by decide⟩
theorem fX1_9 : FL RX1 9 1 0 .boolean false := ⟨RX1, TX1, 4, tyX1, rfl, inT1, by decide, tb_at 65 (by decide +kernel) rfl, rfl, tyX1_ok, nmX1, tyX1_ok 0 (by decide), by decide⟩
theorem fX1_15 : FL RX1 15 1 1 .long false := ⟨RX1, TX1, 4, tyX1, rfl, inT1, by decide, tb_at 67 (by decide +kernel) rfl, rfl, tyX1_ok, nmX1, tyX1_ok 1 (by decide), by decide⟩
theorem fX1_19 : FL RX1 19 4 3 .int false := ⟨RX4, TX4, 8, tyX4, rfl, inT4, by decide, tb_at 31 (by decide +kernel) rfl, rfl, tyX4_ok, nmX4, tyX4_ok 3 (by decide), by decide⟩
theorem fX1_25 : FL RX1 25 4 4 .int false := ⟨RX4, TX4, 8, tyX4, rfl, inT4, by decide, tb_at 33 (by decide +kernel) rfl, rfl, tyX4_ok, nmX4, tyX4_ok 4 (by decide), by decide⟩
theorem fX1_30 : FL RX1 30 4 0 .int false := ⟨RX4, TX4, 8, tyX4, rfl, inT4, by decide, tb_at 26 (by decide +kernel) rfl, rfl, tyX4_ok, nmX4, tyX4_ok 0 (by decide), by decide⟩
theorem fX1_33 : FL RX1 33 4 1 .int false := ⟨RX4, TX4, 8, tyX4, rfl, inT4, by decide, tb_at 28 (by decide +kernel) rfl, rfl, tyX4_ok, nmX4, tyX4_ok 1 (by decide), by decide⟩
theorem fX1_36 : FL RX1 36 1 2 .long false := ⟨RX1, TX1, 4, tyX1, rfl, inT1, by decide, tb_at 69 (by decide +kernel) rfl, rfl, tyX1_ok, nmX1, tyX1_ok 2 (by decide), by decide⟩
theorem fX1_39 : FL RX1 39 1 3 .long false := ⟨RX1, TX1, 4, tyX1, rfl, inT1, by decide, tb_at 70 (by decide +kernel) rfl, rfl, tyX1_ok, nmX1, tyX1_ok 3 (by decide), by decide⟩
theorem fX1_42 : FL RX1 42 4 2 .int false := ⟨RX4, TX4, 8, tyX4, rfl, inT4, by decide, tb_at 30 (by decide +kernel) rfl, rfl, tyX4_ok, nmX4, tyX4_ok 2 (by decide), by decide⟩
theorem fX1_45 : FL RX1 45 4 5 .int false := ⟨RX4, TX4, 8, tyX4, rfl, inT4, by decide, tb_at 36 (by decide +kernel) rfl, rfl, tyX4_ok, nmX4, tyX4_ok 5 (by decide), by decide⟩
theorem fX1_54 : FL RX1 54 4 6 .boolean false := ⟨RX4, TX4, 8, tyX4, rfl, inT4, by decide, tb_at 37 (by decide +kernel) rfl, rfl, tyX4_ok, nmX4, tyX4_ok 6 (by decide), by decide⟩
theorem fX2_7 : FL RX2 7 2 0 .long false := ⟨RX2, TX2, 2, tyX2, rfl, inT2, by decide, tb_at 93 (by decide +kernel) rfl, rfl, tyX2_ok, nmX2, tyX2_ok 0 (by decide), by decide⟩
theorem fX2_13 : FL RX2 13 2 1 .long false := ⟨RX2, TX2, 2, tyX2, rfl, inT2, by decide, tb_at 94 (by decide +kernel) rfl, rfl, tyX2_ok, nmX2, tyX2_ok 1 (by decide), by decide⟩
theorem fX3_9 : FL RX3 9 3 0 (.array .int) true := ⟨RX3, TX3, 2, tyX3, rfl, inT3, by decide, tb_at 153 (by decide +kernel) rfl, rfl, tyX3_ok, nmX3, tyX3_ok 0 (by decide), fun _ => rfl⟩
theorem fX3_15 : FL RX3 15 3 1 .int false := ⟨RX3, TX3, 2, tyX3, rfl, inT3, by decide, tb_at 155 (by decide +kernel) rfl, rfl, tyX3_ok, nmX3, tyX3_ok 1 (by decide), by decide⟩
theorem fX4_9 : FL RX4 9 4 7 (.array .int) true := ⟨RX4, TX4, 8, tyX4, rfl, inT4, by decide, tb_at 39 (by decide +kernel) rfl, rfl, tyX4_ok, nmX4, tyX4_ok 7 (by decide), fun _ => rfl⟩
theorem fX4_16 : FL RX4 16 4 0 .int false := ⟨RX4, TX4, 8, tyX4, rfl, inT4, by decide, tb_at 25 (by decide +kernel) rfl, rfl, tyX4_ok, nmX4, tyX4_ok 0 (by decide), by decide⟩
theorem fX4_20 : FL RX4 20 4 1 .int false := ⟨RX4, TX4, 8, tyX4, rfl, inT4, by decide, tb_at 27 (by decide +kernel) rfl, rfl, tyX4_ok, nmX4, tyX4_ok 1 (by decide), by decide⟩
theorem fX4_23 : FL RX4 23 4 2 .int false := ⟨RX4, TX4, 8, tyX4, rfl, inT4, by decide, tb_at 29 (by decide +kernel) rfl, rfl, tyX4_ok, nmX4, tyX4_ok 2 (by decide), by decide⟩
theorem fX4_26 : FL RX4 26 4 3 .int false := ⟨RX4, TX4, 8, tyX4, rfl, inT4, by decide, tb_at 32 (by decide +kernel) rfl, rfl, tyX4_ok, nmX4, tyX4_ok 3 (by decide), by decide⟩
theorem fX4_29 : FL RX4 29 4 4 .int false := ⟨RX4, TX4, 8, tyX4, rfl, inT4, by decide, tb_at 34 (by decide +kernel) rfl, rfl, tyX4_ok, nmX4, tyX4_ok 4 (by decide), by decide⟩
theorem fX4_32 : FL RX4 32 4 5 .int false := ⟨RX4, TX4, 8, tyX4, rfl, inT4, by decide, tb_at 35 (by decide +kernel) rfl, rfl, tyX4_ok, nmX4, tyX4_ok 5 (by decide), by decide⟩
theorem fX5_11 : FL RX5 11 5 0 (.array (.object "TrackCrossings$Track")) true := ⟨RX5, TX5, 7, tyX5, rfl, inT5, by decide, tb_at 164 (by decide +kernel) rfl, rfl, tyX5_ok, nmX5, tyX5_ok 0 (by decide), fun _ => rfl⟩
theorem fX5_19 : FL RX5 19 5 1 (.object "TrackCrossings$Crossing") true := ⟨RX5, TX5, 7, tyX5, rfl, inT5, by decide, tb_at 165 (by decide +kernel) rfl, rfl, tyX5_ok, nmX5, tyX5_ok 1 (by decide), fun _ => rfl⟩
theorem fX5_26 : FL RX5 26 5 2 (.object "TrackCrossings$Closing") true := ⟨RX5, TX5, 7, tyX5, rfl, inT5, by decide, tb_at 166 (by decide +kernel) rfl, rfl, tyX5_ok, nmX5, tyX5_ok 2 (by decide), fun _ => rfl⟩
theorem fX5_33 : FL RX5 33 5 3 (.object "TrackCrossings$Tones") true := ⟨RX5, TX5, 7, tyX5, rfl, inT5, by decide, tb_at 167 (by decide +kernel) rfl, rfl, tyX5_ok, nmX5, tyX5_ok 3 (by decide), fun _ => rfl⟩
theorem fX5_40 : FL RX5 40 5 4 (.object "TrackCrossings$Fraction") true := ⟨RX5, TX5, 7, tyX5, rfl, inT5, by decide, tb_at 168 (by decide +kernel) rfl, rfl, tyX5_ok, nmX5, tyX5_ok 4 (by decide), fun _ => rfl⟩
theorem fX5_44 : FL RX5 44 5 5 .int false := ⟨RX5, TX5, 7, tyX5, rfl, inT5, by decide, tb_at 169 (by decide +kernel) rfl, rfl, tyX5_ok, nmX5, tyX5_ok 5 (by decide), by decide⟩
theorem fX5_48 : FL RX5 48 5 6 .boolean false := ⟨RX5, TX5, 7, tyX5, rfl, inT5, by decide, tb_at 170 (by decide +kernel) rfl, rfl, tyX5_ok, nmX5, tyX5_ok 6 (by decide), by decide⟩
theorem fX5_73 : FG RX5 73 4 7 := ⟨RX4, TX4, 8, rfl, inT4, by decide, tb_at 40 (by decide +kernel) rfl⟩
theorem fX5_77 : FL RX5 77 4 6 .boolean false := ⟨RX4, TX4, 8, tyX4, rfl, inT4, by decide, tb_at 38 (by decide +kernel) rfl, rfl, tyX4_ok, nmX4, tyX4_ok 6 (by decide), by decide⟩
theorem fX5_93 : FL RX5 93 1 0 .boolean false := ⟨RX1, TX1, 4, tyX1, rfl, inT1, by decide, tb_at 66 (by decide +kernel) rfl, rfl, tyX1_ok, nmX1, tyX1_ok 0 (by decide), by decide⟩
theorem fX5_104 : FL RX5 104 1 1 .long false := ⟨RX1, TX1, 4, tyX1, rfl, inT1, by decide, tb_at 68 (by decide +kernel) rfl, rfl, tyX1_ok, nmX1, tyX1_ok 1 (by decide), by decide⟩
theorem fX5_124 : FL RX5 124 0 1 .int false := ⟨RX0, TX0, 12, tyX0, rfl, inT0, by decide, tb_at 107 (by decide +kernel) rfl, rfl, tyX0_ok, nmX0, tyX0_ok 1 (by decide), by decide⟩
theorem fX5_127 : FL RX5 127 0 2 .int false := ⟨RX0, TX0, 12, tyX0, rfl, inT0, by decide, tb_at 109 (by decide +kernel) rfl, rfl, tyX0_ok, nmX0, tyX0_ok 2 (by decide), by decide⟩
theorem fX5_130 : FL RX5 130 0 3 .int false := ⟨RX0, TX0, 12, tyX0, rfl, inT0, by decide, tb_at 111 (by decide +kernel) rfl, rfl, tyX0_ok, nmX0, tyX0_ok 3 (by decide), by decide⟩
theorem fX5_133 : FG RX5 133 0 0 := ⟨RX0, TX0, 12, rfl, inT0, by decide, tb_at 105 (by decide +kernel) rfl⟩
theorem fX5_137 : FL RX5 137 0 4 .long false := ⟨RX0, TX0, 12, tyX0, rfl, inT0, by decide, tb_at 113 (by decide +kernel) rfl, rfl, tyX0_ok, nmX0, tyX0_ok 4 (by decide), by decide⟩
theorem fX5_145 : FL RX5 145 3 1 .int false := ⟨RX3, TX3, 2, tyX3, rfl, inT3, by decide, tb_at 156 (by decide +kernel) rfl, rfl, tyX3_ok, nmX3, tyX3_ok 1 (by decide), by decide⟩
theorem fX5_148 : FG RX5 148 3 0 := ⟨RX3, TX3, 2, rfl, inT3, by decide, tb_at 154 (by decide +kernel) rfl⟩
theorem fX6_7 : FL RX6 7 6 1 (.array .int) true := ⟨RX6, TX6, 18, tyX6, rfl, inT6, by decide, tb_at 446 (by decide +kernel) rfl, rfl, tyX6_ok, nmX6, tyX6_ok 1 (by decide), fun _ => rfl⟩
theorem fX6_13 : FL RX6 13 6 2 (.array .int) true := ⟨RX6, TX6, 18, tyX6, rfl, inT6, by decide, tb_at 447 (by decide +kernel) rfl, rfl, tyX6_ok, nmX6, tyX6_ok 2 (by decide), fun _ => rfl⟩
theorem fX6_16 : FL RX6 16 6 3 (.array .boolean) true := ⟨RX6, TX6, 18, tyX6, rfl, inT6, by decide, tb_at 448 (by decide +kernel) rfl, rfl, tyX6_ok, nmX6, tyX6_ok 3 (by decide), fun _ => rfl⟩
theorem fX6_20 : FL RX6 20 6 5 (.array .int) true := ⟨RX6, TX6, 18, tyX6, rfl, inT6, by decide, tb_at 450 (by decide +kernel) rfl, rfl, tyX6_ok, nmX6, tyX6_ok 5 (by decide), fun _ => rfl⟩
theorem fX6_23 : FL RX6 23 6 11 (.array .int) true := ⟨RX6, TX6, 18, tyX6, rfl, inT6, by decide, tb_at 456 (by decide +kernel) rfl, rfl, tyX6_ok, nmX6, tyX6_ok 11 (by decide), fun _ => rfl⟩
theorem fX6_26 : FL RX6 26 6 12 (.array .int) true := ⟨RX6, TX6, 18, tyX6, rfl, inT6, by decide, tb_at 457 (by decide +kernel) rfl, rfl, tyX6_ok, nmX6, tyX6_ok 12 (by decide), fun _ => rfl⟩
theorem fX6_29 : FL RX6 29 6 13 (.array .long) true := ⟨RX6, TX6, 18, tyX6, rfl, inT6, by decide, tb_at 458 (by decide +kernel) rfl, rfl, tyX6_ok, nmX6, tyX6_ok 13 (by decide), fun _ => rfl⟩
theorem fX6_33 : FL RX6 33 6 14 (.array .long) true := ⟨RX6, TX6, 18, tyX6, rfl, inT6, by decide, tb_at 459 (by decide +kernel) rfl, rfl, tyX6_ok, nmX6, tyX6_ok 14 (by decide), fun _ => rfl⟩
theorem fX6_36 : FL RX6 36 6 15 (.array .long) true := ⟨RX6, TX6, 18, tyX6, rfl, inT6, by decide, tb_at 460 (by decide +kernel) rfl, rfl, tyX6_ok, nmX6, tyX6_ok 15 (by decide), fun _ => rfl⟩
theorem fX6_40 : FL RX6 40 6 0 .int false := ⟨RX6, TX6, 18, tyX6, rfl, inT6, by decide, tb_at 445 (by decide +kernel) rfl, rfl, tyX6_ok, nmX6, tyX6_ok 0 (by decide), by decide⟩
theorem fX6_69 : FL RX6 69 6 6 .long false := ⟨RX6, TX6, 18, tyX6, rfl, inT6, by decide, tb_at 451 (by decide +kernel) rfl, rfl, tyX6_ok, nmX6, tyX6_ok 6 (by decide), by decide⟩
theorem fX6_73 : FL RX6 73 6 7 .long false := ⟨RX6, TX6, 18, tyX6, rfl, inT6, by decide, tb_at 452 (by decide +kernel) rfl, rfl, tyX6_ok, nmX6, tyX6_ok 7 (by decide), by decide⟩
theorem fX6_76 : FL RX6 76 6 8 .long false := ⟨RX6, TX6, 18, tyX6, rfl, inT6, by decide, tb_at 453 (by decide +kernel) rfl, rfl, tyX6_ok, nmX6, tyX6_ok 8 (by decide), by decide⟩
theorem fX6_79 : FL RX6 79 6 9 .long false := ⟨RX6, TX6, 18, tyX6, rfl, inT6, by decide, tb_at 454 (by decide +kernel) rfl, rfl, tyX6_ok, nmX6, tyX6_ok 9 (by decide), by decide⟩
theorem fX6_114 : FL RX6 114 6 10 .long false := ⟨RX6, TX6, 18, tyX6, rfl, inT6, by decide, tb_at 455 (by decide +kernel) rfl, rfl, tyX6_ok, nmX6, tyX6_ok 10 (by decide), by decide⟩
theorem fX6_141 : FL RX6 141 6 16 .long false := ⟨RX6, TX6, 18, tyX6, rfl, inT6, by decide, tb_at 461 (by decide +kernel) rfl, rfl, tyX6_ok, nmX6, tyX6_ok 16 (by decide), by decide⟩
theorem fX6_144 : FL RX6 144 6 17 .long false := ⟨RX6, TX6, 18, tyX6, rfl, inT6, by decide, tb_at 462 (by decide +kernel) rfl, rfl, tyX6_ok, nmX6, tyX6_ok 17 (by decide), by decide⟩
theorem fX6_159 : FL RX6 159 6 4 .int false := ⟨RX6, TX6, 18, tyX6, rfl, inT6, by decide, tb_at 449 (by decide +kernel) rfl, rfl, tyX6_ok, nmX6, tyX6_ok 4 (by decide), by decide⟩
theorem mL_9 : MI RL 9 yX5_init cX5_init 2 none 0 := ⟨⟨tb_at 11 (by decide +kernel) rfl, tb_at 1 (by decide +kernel) rfl, tb_at 13 (by decide +kernel) rfl, by decide +kernel, by decide +kernel, by decide +kernel⟩, tb_at 12 (by decide +kernel) rfl, rfl, rfl⟩
theorem mL_12 : MI RL 12 yX6_init cX6_init 2 none 0 := ⟨⟨tb_at 440 (by decide +kernel) rfl, tb_at 7 (by decide +kernel) rfl, tb_at 442 (by decide +kernel) rfl, by decide +kernel, by decide +kernel, by decide +kernel⟩, tb_at 441 (by decide +kernel) rfl, rfl, rfl⟩
theorem mL_13 : MV RL 13 5 yX5_track cX5_track 11 (some .int) 6 := ⟨⟨tb_at 186 (by decide +kernel) rfl, tb_at 1 (by decide +kernel) rfl, tb_at 189 (by decide +kernel) rfl, by decide +kernel, by decide +kernel, by decide +kernel⟩, tb_at 187 (by decide +kernel) rfl, tb_at 188 (by decide +kernel) rfl, TX5, 7, rfl⟩
theorem mL_17 : MV RL 17 6 yX6_track cX6_track 7 (some .int) 6 := ⟨⟨tb_at 501 (by decide +kernel) rfl, tb_at 7 (by decide +kernel) rfl, tb_at 504 (by decide +kernel) rfl, by decide +kernel, by decide +kernel, by decide +kernel⟩, tb_at 502 (by decide +kernel) rfl, tb_at 503 (by decide +kernel) rfl, TX6, 18, rfl⟩
theorem mL_18 : MV RL 18 5 yX5_read cX5_read 6 (some .int) 3 := ⟨⟨tb_at 205 (by decide +kernel) rfl, tb_at 1 (by decide +kernel) rfl, tb_at 208 (by decide +kernel) rfl, by decide +kernel, by decide +kernel, by decide +kernel⟩, tb_at 206 (by decide +kernel) rfl, tb_at 207 (by decide +kernel) rfl, TX5, 7, rfl⟩
theorem mL_22 : MV RL 22 6 yX6_read cX6_read 5 (some .int) 3 := ⟨⟨tb_at 514 (by decide +kernel) rfl, tb_at 7 (by decide +kernel) rfl, tb_at 517 (by decide +kernel) rfl, by decide +kernel, by decide +kernel, by decide +kernel⟩, tb_at 515 (by decide +kernel) rfl, tb_at 516 (by decide +kernel) rfl, TX6, 18, rfl⟩
theorem mL_23 : MV RL 23 5 yX5_hold cX5_hold 4 (some .int) 2 := ⟨⟨tb_at 215 (by decide +kernel) rfl, tb_at 1 (by decide +kernel) rfl, tb_at 218 (by decide +kernel) rfl, by decide +kernel, by decide +kernel, by decide +kernel⟩, tb_at 216 (by decide +kernel) rfl, tb_at 217 (by decide +kernel) rfl, TX5, 7, rfl⟩
theorem mL_27 : MV RL 27 6 yX6_hold cX6_hold 4 (some .int) 2 := ⟨⟨tb_at 526 (by decide +kernel) rfl, tb_at 7 (by decide +kernel) rfl, tb_at 529 (by decide +kernel) rfl, by decide +kernel, by decide +kernel, by decide +kernel⟩, tb_at 527 (by decide +kernel) rfl, tb_at 528 (by decide +kernel) rfl, TX6, 18, rfl⟩
theorem mL_28 : MV RL 28 5 yX5_cross cX5_cross 8 (some .long) 4 := ⟨⟨tb_at 219 (by decide +kernel) rfl, tb_at 1 (by decide +kernel) rfl, tb_at 222 (by decide +kernel) rfl, by decide +kernel, by decide +kernel, by decide +kernel⟩, tb_at 220 (by decide +kernel) rfl, tb_at 221 (by decide +kernel) rfl, TX5, 7, rfl⟩
theorem mL_32 : MV RL 32 6 yX6_cross cX6_cross 5 (some .long) 4 := ⟨⟨tb_at 530 (by decide +kernel) rfl, tb_at 7 (by decide +kernel) rfl, tb_at 533 (by decide +kernel) rfl, by decide +kernel, by decide +kernel, by decide +kernel⟩, tb_at 531 (by decide +kernel) rfl, tb_at 532 (by decide +kernel) rfl, TX6, 18, rfl⟩
theorem mL_33 : MV RL 33 5 yX5_crosses cX5_crosses 3 (some .int) 2 := ⟨⟨tb_at 260 (by decide +kernel) rfl, tb_at 1 (by decide +kernel) rfl, tb_at 263 (by decide +kernel) rfl, by decide +kernel, by decide +kernel, by decide +kernel⟩, tb_at 261 (by decide +kernel) rfl, tb_at 262 (by decide +kernel) rfl, TX5, 7, rfl⟩
theorem mL_37 : MV RL 37 6 yX6_crosses cX6_crosses 3 (some .int) 2 := ⟨⟨tb_at 556 (by decide +kernel) rfl, tb_at 7 (by decide +kernel) rfl, tb_at 559 (by decide +kernel) rfl, by decide +kernel, by decide +kernel, by decide +kernel⟩, tb_at 557 (by decide +kernel) rfl, tb_at 558 (by decide +kernel) rfl, TX6, 18, rfl⟩
theorem mL_38 : MV RL 38 5 yX5_difference cX5_difference 3 (some .int) 2 := ⟨⟨tb_at 264 (by decide +kernel) rfl, tb_at 1 (by decide +kernel) rfl, tb_at 267 (by decide +kernel) rfl, by decide +kernel, by decide +kernel, by decide +kernel⟩, tb_at 265 (by decide +kernel) rfl, tb_at 266 (by decide +kernel) rfl, TX5, 7, rfl⟩
theorem mL_41 : MV RL 41 6 yX6_difference cX6_difference 3 (some .int) 2 := ⟨⟨tb_at 560 (by decide +kernel) rfl, tb_at 7 (by decide +kernel) rfl, tb_at 563 (by decide +kernel) rfl, by decide +kernel, by decide +kernel, by decide +kernel⟩, tb_at 561 (by decide +kernel) rfl, tb_at 562 (by decide +kernel) rfl, TX6, 18, rfl⟩
theorem mL_42 : MV RL 42 5 yX5_net cX5_net 2 (some .int) 1 := ⟨⟨tb_at 279 (by decide +kernel) rfl, tb_at 1 (by decide +kernel) rfl, tb_at 282 (by decide +kernel) rfl, by decide +kernel, by decide +kernel, by decide +kernel⟩, tb_at 280 (by decide +kernel) rfl, tb_at 281 (by decide +kernel) rfl, TX5, 7, rfl⟩
theorem mL_46 : MV RL 46 6 yX6_net cX6_net 7 (some .int) 1 := ⟨⟨tb_at 574 (by decide +kernel) rfl, tb_at 7 (by decide +kernel) rfl, tb_at 577 (by decide +kernel) rfl, by decide +kernel, by decide +kernel, by decide +kernel⟩, tb_at 575 (by decide +kernel) rfl, tb_at 576 (by decide +kernel) rfl, TX6, 18, rfl⟩
theorem mL_47 : MV RL 47 5 yX5_off cX5_off 3 (some .long) 2 := ⟨⟨tb_at 344 (by decide +kernel) rfl, tb_at 1 (by decide +kernel) rfl, tb_at 347 (by decide +kernel) rfl, by decide +kernel, by decide +kernel, by decide +kernel⟩, tb_at 345 (by decide +kernel) rfl, tb_at 346 (by decide +kernel) rfl, TX5, 7, rfl⟩
theorem mL_51 : MV RL 51 6 yX6_off cX6_off 3 (some .long) 2 := ⟨⟨tb_at 586 (by decide +kernel) rfl, tb_at 7 (by decide +kernel) rfl, tb_at 589 (by decide +kernel) rfl, by decide +kernel, by decide +kernel, by decide +kernel⟩, tb_at 587 (by decide +kernel) rfl, tb_at 588 (by decide +kernel) rfl, TX6, 18, rfl⟩
theorem mL_52 : MV RL 52 5 yX5_before cX5_before 1 (some .long) 0 := ⟨⟨tb_at 348 (by decide +kernel) rfl, tb_at 1 (by decide +kernel) rfl, tb_at 351 (by decide +kernel) rfl, by decide +kernel, by decide +kernel, by decide +kernel⟩, tb_at 349 (by decide +kernel) rfl, tb_at 350 (by decide +kernel) rfl, TX5, 7, rfl⟩
theorem mL_56 : MV RL 56 6 yX6_before cX6_before 5 (some .long) 0 := ⟨⟨tb_at 611 (by decide +kernel) rfl, tb_at 7 (by decide +kernel) rfl, tb_at 614 (by decide +kernel) rfl, by decide +kernel, by decide +kernel, by decide +kernel⟩, tb_at 612 (by decide +kernel) rfl, tb_at 613 (by decide +kernel) rfl, TX6, 18, rfl⟩
theorem mL_57 : MV RL 57 5 yX5_behind cX5_behind 1 (some .long) 0 := ⟨⟨tb_at 352 (by decide +kernel) rfl, tb_at 1 (by decide +kernel) rfl, tb_at 355 (by decide +kernel) rfl, by decide +kernel, by decide +kernel, by decide +kernel⟩, tb_at 353 (by decide +kernel) rfl, tb_at 354 (by decide +kernel) rfl, TX5, 7, rfl⟩
theorem mL_60 : MV RL 60 6 yX6_behind cX6_behind 10 (some .long) 0 := ⟨⟨tb_at 615 (by decide +kernel) rfl, tb_at 7 (by decide +kernel) rfl, tb_at 618 (by decide +kernel) rfl, by decide +kernel, by decide +kernel, by decide +kernel⟩, tb_at 616 (by decide +kernel) rfl, tb_at 617 (by decide +kernel) rfl, TX6, 18, rfl⟩
theorem mL_61 : MV RL 61 5 yX5_loop cX5_loop 7 (some .int) 3 := ⟨⟨tb_at 361 (by decide +kernel) rfl, tb_at 1 (by decide +kernel) rfl, tb_at 364 (by decide +kernel) rfl, by decide +kernel, by decide +kernel, by decide +kernel⟩, tb_at 362 (by decide +kernel) rfl, tb_at 363 (by decide +kernel) rfl, TX5, 7, rfl⟩
theorem mL_64 : MV RL 64 6 yX6_loop cX6_loop 6 (some .int) 3 := ⟨⟨tb_at 620 (by decide +kernel) rfl, tb_at 7 (by decide +kernel) rfl, tb_at 623 (by decide +kernel) rfl, by decide +kernel, by decide +kernel, by decide +kernel⟩, tb_at 621 (by decide +kernel) rfl, tb_at 622 (by decide +kernel) rfl, TX6, 18, rfl⟩
theorem mL_65 : MV RL 65 5 yX5_tone cX5_tone 2 (some .int) 1 := ⟨⟨tb_at 366 (by decide +kernel) rfl, tb_at 1 (by decide +kernel) rfl, tb_at 369 (by decide +kernel) rfl, by decide +kernel, by decide +kernel, by decide +kernel⟩, tb_at 367 (by decide +kernel) rfl, tb_at 368 (by decide +kernel) rfl, TX5, 7, rfl⟩
theorem mL_68 : MV RL 68 6 yX6_tone cX6_tone 2 (some .int) 1 := ⟨⟨tb_at 624 (by decide +kernel) rfl, tb_at 7 (by decide +kernel) rfl, tb_at 627 (by decide +kernel) rfl, by decide +kernel, by decide +kernel, by decide +kernel⟩, tb_at 625 (by decide +kernel) rfl, tb_at 626 (by decide +kernel) rfl, TX6, 18, rfl⟩
theorem mL_69 : MV RL 69 5 yX5_seen cX5_seen 6 (some .long) 3 := ⟨⟨tb_at 370 (by decide +kernel) rfl, tb_at 1 (by decide +kernel) rfl, tb_at 373 (by decide +kernel) rfl, by decide +kernel, by decide +kernel, by decide +kernel⟩, tb_at 371 (by decide +kernel) rfl, tb_at 372 (by decide +kernel) rfl, TX5, 7, rfl⟩
theorem mL_73 : MV RL 73 6 yX6_seen cX6_seen 6 (some .long) 3 := ⟨⟨tb_at 628 (by decide +kernel) rfl, tb_at 7 (by decide +kernel) rfl, tb_at 631 (by decide +kernel) rfl, by decide +kernel, by decide +kernel, by decide +kernel⟩, tb_at 629 (by decide +kernel) rfl, tb_at 630 (by decide +kernel) rfl, TX6, 18, rfl⟩
theorem mL_74 : MV RL 74 5 yX5_apart cX5_apart 6 (some .int) 4 := ⟨⟨tb_at 386 (by decide +kernel) rfl, tb_at 1 (by decide +kernel) rfl, tb_at 389 (by decide +kernel) rfl, by decide +kernel, by decide +kernel, by decide +kernel⟩, tb_at 387 (by decide +kernel) rfl, tb_at 388 (by decide +kernel) rfl, TX5, 7, rfl⟩
theorem mL_78 : MV RL 78 6 yX6_apart cX6_apart 11 (some .int) 4 := ⟨⟨tb_at 642 (by decide +kernel) rfl, tb_at 7 (by decide +kernel) rfl, tb_at 645 (by decide +kernel) rfl, by decide +kernel, by decide +kernel, by decide +kernel⟩, tb_at 643 (by decide +kernel) rfl, tb_at 644 (by decide +kernel) rfl, TX6, 18, rfl⟩
theorem mL_79 : MV RL 79 5 yX5_box cX5_box 13 (some .long) 4 := ⟨⟨tb_at 401 (by decide +kernel) rfl, tb_at 1 (by decide +kernel) rfl, tb_at 404 (by decide +kernel) rfl, by decide +kernel, by decide +kernel, by decide +kernel⟩, tb_at 402 (by decide +kernel) rfl, tb_at 403 (by decide +kernel) rfl, TX5, 7, rfl⟩
theorem mL_82 : MV RL 82 6 yX6_box cX6_box 15 (some .long) 4 := ⟨⟨tb_at 647 (by decide +kernel) rfl, tb_at 7 (by decide +kernel) rfl, tb_at 650 (by decide +kernel) rfl, by decide +kernel, by decide +kernel, by decide +kernel⟩, tb_at 648 (by decide +kernel) rfl, tb_at 649 (by decide +kernel) rfl, TX6, 18, rfl⟩
theorem mL_83 : MV RL 83 5 yX5_count cX5_count 2 (some .int) 1 := ⟨⟨tb_at 426 (by decide +kernel) rfl, tb_at 1 (by decide +kernel) rfl, tb_at 429 (by decide +kernel) rfl, by decide +kernel, by decide +kernel, by decide +kernel⟩, tb_at 427 (by decide +kernel) rfl, tb_at 428 (by decide +kernel) rfl, TX5, 7, rfl⟩
theorem mL_86 : MV RL 86 6 yX6_count cX6_count 5 (some .int) 1 := ⟨⟨tb_at 652 (by decide +kernel) rfl, tb_at 7 (by decide +kernel) rfl, tb_at 655 (by decide +kernel) rfl, by decide +kernel, by decide +kernel, by decide +kernel⟩, tb_at 653 (by decide +kernel) rfl, tb_at 654 (by decide +kernel) rfl, TX6, 18, rfl⟩
theorem mX0_17 : MI RX0 17 yX2_init cX2_init 1 none 0 := ⟨⟨tb_at 89 (by decide +kernel) rfl, tb_at 5 (by decide +kernel) rfl, tb_at 91 (by decide +kernel) rfl, by decide +kernel, by decide +kernel, by decide +kernel⟩, tb_at 90 (by decide +kernel) rfl, rfl, rfl⟩
theorem mX0_46 : MV RX0 46 0 yX0_startAnew cX0_startAnew 2 none 0 := ⟨⟨tb_at 291 (by decide +kernel) rfl, tb_at 4 (by decide +kernel) rfl, tb_at 294 (by decide +kernel) rfl, by decide +kernel, by decide +kernel, by decide +kernel⟩, tb_at 293 (by decide +kernel) rfl, tb_sel 3 (by decide +kernel) rfl, TX0, 12, rfl⟩
theorem mX0_49 : MV RX0 49 1 yX1_differenceOf cX1_differenceOf 7 (some .int) 2 := ⟨⟨tb_at 296 (by decide +kernel) rfl, tb_at 3 (by decide +kernel) rfl, tb_at 272 (by decide +kernel) rfl, by decide +kernel, by decide +kernel, by decide +kernel⟩, tb_at 270 (by decide +kernel) rfl, tb_at 271 (by decide +kernel) rfl, TX1, 4, rfl⟩
theorem mX0_55 : MV RX0 55 0 yX0_takeDifference cX0_takeDifference 4 none 3 := ⟨⟨tb_at 297 (by decide +kernel) rfl, tb_at 4 (by decide +kernel) rfl, tb_at 300 (by decide +kernel) rfl, by decide +kernel, by decide +kernel, by decide +kernel⟩, tb_at 299 (by decide +kernel) rfl, tb_sel 4 (by decide +kernel) rfl, TX0, 12, rfl⟩
theorem mX0_59 : MV RX0 59 0 yX0_gatherMembers cX0_gatherMembers 5 (some .int) 2 := ⟨⟨tb_at 312 (by decide +kernel) rfl, tb_at 4 (by decide +kernel) rfl, tb_at 315 (by decide +kernel) rfl, by decide +kernel, by decide +kernel, by decide +kernel⟩, tb_at 314 (by decide +kernel) rfl, tb_sel 6 (by decide +kernel) rfl, TX0, 12, rfl⟩
theorem mX0_63 : MV RX0 63 0 yX0_settleNet cX0_settleNet 5 none 1 := ⟨⟨tb_at 316 (by decide +kernel) rfl, tb_at 4 (by decide +kernel) rfl, tb_at 319 (by decide +kernel) rfl, by decide +kernel, by decide +kernel, by decide +kernel⟩, tb_at 318 (by decide +kernel) rfl, tb_sel 7 (by decide +kernel) rfl, TX0, 12, rfl⟩
theorem mX0_70 : MS RX0 70 yJ9_floorDiv_f86c9 cJ9_floorDiv_f86c9 6 (some .long) 2 := ⟨⟨tb_at 360 (by decide +kernel) rfl, tb_at 8 (by decide +kernel) rfl, tb_at 278 (by decide +kernel) rfl, by decide +kernel, by decide +kernel, by decide +kernel⟩, tb_at 277 (by decide +kernel) rfl⟩
theorem mX0_86 : MV RX0 86 2 yX2_become cX2_become 9 none 2 := ⟨⟨tb_at 295 (by decide +kernel) rfl, tb_at 5 (by decide +kernel) rfl, tb_at 252 (by decide +kernel) rfl, by decide +kernel, by decide +kernel, by decide +kernel⟩, tb_at 250 (by decide +kernel) rfl, tb_at 251 (by decide +kernel) rfl, TX2, 2, rfl⟩
theorem mX0_91 : MV RX0 91 0 yX0_joinNets cX0_joinNets 6 none 2 := ⟨⟨tb_at 302 (by decide +kernel) rfl, tb_at 4 (by decide +kernel) rfl, tb_at 305 (by decide +kernel) rfl, by decide +kernel, by decide +kernel, by decide +kernel⟩, tb_at 304 (by decide +kernel) rfl, tb_sel 5 (by decide +kernel) rfl, TX0, 12, rfl⟩
theorem mX0_95 : MS RX0 95 yJ9_min_7cf53 cJ9_min_7cf53 2 (some .int) 2 := ⟨⟨tb_at 306 (by decide +kernel) rfl, tb_at 8 (by decide +kernel) rfl, tb_at 308 (by decide +kernel) rfl, by decide +kernel, by decide +kernel, by decide +kernel⟩, tb_at 307 (by decide +kernel) rfl⟩
theorem mX0_98 : MS RX0 98 yJ9_max_7cf53 cJ9_max_7cf53 2 (some .int) 2 := ⟨⟨tb_at 309 (by decide +kernel) rfl, tb_at 8 (by decide +kernel) rfl, tb_at 311 (by decide +kernel) rfl, by decide +kernel, by decide +kernel, by decide +kernel⟩, tb_at 310 (by decide +kernel) rfl⟩
theorem mX0_101 : MV RX0 101 0 yX0_fillRows cX0_fillRows 5 none 1 := ⟨⟨tb_at 320 (by decide +kernel) rfl, tb_at 4 (by decide +kernel) rfl, tb_at 323 (by decide +kernel) rfl, by decide +kernel, by decide +kernel, by decide +kernel⟩, tb_at 322 (by decide +kernel) rfl, tb_sel 8 (by decide +kernel) rfl, TX0, 12, rfl⟩
theorem mX0_104 : MV RX0 104 0 yX0_solveRows cX0_solveRows 8 (some .long) 1 := ⟨⟨tb_at 328 (by decide +kernel) rfl, tb_at 4 (by decide +kernel) rfl, tb_at 331 (by decide +kernel) rfl, by decide +kernel, by decide +kernel, by decide +kernel⟩, tb_at 330 (by decide +kernel) rfl, tb_sel 10 (by decide +kernel) rfl, TX0, 12, rfl⟩
theorem mX0_108 : MV RX0 108 0 yX0_tellOffs cX0_tellOffs 7 none 2 := ⟨⟨tb_at 336 (by decide +kernel) rfl, tb_at 4 (by decide +kernel) rfl, tb_at 339 (by decide +kernel) rfl, by decide +kernel, by decide +kernel, by decide +kernel⟩, tb_at 338 (by decide +kernel) rfl, tb_sel 12 (by decide +kernel) rfl, TX0, 12, rfl⟩
theorem mX0_112 : MV RX0 112 0 yX0_addClosed cX0_addClosed 9 none 2 := ⟨⟨tb_at 340 (by decide +kernel) rfl, tb_at 4 (by decide +kernel) rfl, tb_at 343 (by decide +kernel) rfl, by decide +kernel, by decide +kernel, by decide +kernel⟩, tb_at 342 (by decide +kernel) rfl, tb_sel 13 (by decide +kernel) rfl, TX0, 12, rfl⟩
theorem mX0_115 : MV RX0 115 0 yX0_addToRows cX0_addToRows 5 none 4 := ⟨⟨tb_at 324 (by decide +kernel) rfl, tb_at 4 (by decide +kernel) rfl, tb_at 327 (by decide +kernel) rfl, by decide +kernel, by decide +kernel, by decide +kernel⟩, tb_at 326 (by decide +kernel) rfl, tb_sel 9 (by decide +kernel) rfl, TX0, 12, rfl⟩
theorem mX0_119 : MV RX0 119 0 yX0_clearRow cX0_clearRow 11 none 4 := ⟨⟨tb_at 332 (by decide +kernel) rfl, tb_at 4 (by decide +kernel) rfl, tb_at 335 (by decide +kernel) rfl, by decide +kernel, by decide +kernel, by decide +kernel⟩, tb_at 334 (by decide +kernel) rfl, tb_sel 11 (by decide +kernel) rfl, TX0, 12, rfl⟩
theorem mX1_48 : MV RX1 48 4 yX4_heightTimesBelow cX4_heightTimesBelow 8 (some .long) 2 := ⟨⟨tb_at 241 (by decide +kernel) rfl, tb_at 2 (by decide +kernel) rfl, tb_at 244 (by decide +kernel) rfl, by decide +kernel, by decide +kernel, by decide +kernel⟩, tb_at 242 (by decide +kernel) rfl, tb_at 243 (by decide +kernel) rfl, TX4, 8, rfl⟩
theorem mX1_58 : MV RX1 58 1 yX1_find cX1_find 11 none 2 := ⟨⟨tb_at 274 (by decide +kernel) rfl, tb_at 3 (by decide +kernel) rfl, tb_at 234 (by decide +kernel) rfl, by decide +kernel, by decide +kernel, by decide +kernel⟩, tb_at 232 (by decide +kernel) rfl, tb_at 233 (by decide +kernel) rfl, TX1, 4, rfl⟩
theorem mX1_64 : MS RX1 64 yJ9_floorDiv_f86c9 cJ9_floorDiv_f86c9 6 (some .long) 2 := ⟨⟨tb_at 276 (by decide +kernel) rfl, tb_at 8 (by decide +kernel) rfl, tb_at 278 (by decide +kernel) rfl, by decide +kernel, by decide +kernel, by decide +kernel⟩, tb_at 277 (by decide +kernel) rfl⟩
theorem mX2_16 : MS RX2 16 yX2_greatestShared cX2_greatestShared 11 (some .long) 2 := ⟨⟨tb_at 253 (by decide +kernel) rfl, tb_at 5 (by decide +kernel) rfl, tb_at 255 (by decide +kernel) rfl, by decide +kernel, by decide +kernel, by decide +kernel⟩, tb_at 254 (by decide +kernel) rfl⟩
theorem mX2_20 : MS RX2 20 yJ9_floorDiv_f86c9 cJ9_floorDiv_f86c9 6 (some .long) 2 := ⟨⟨tb_at 425 (by decide +kernel) rfl, tb_at 8 (by decide +kernel) rfl, tb_at 278 (by decide +kernel) rfl, by decide +kernel, by decide +kernel, by decide +kernel⟩, tb_at 277 (by decide +kernel) rfl⟩
theorem mX3_19 : MS RX3 19 yJ9_min_7cf53 cJ9_min_7cf53 2 (some .int) 2 := ⟨⟨tb_at 383 (by decide +kernel) rfl, tb_at 8 (by decide +kernel) rfl, tb_at 308 (by decide +kernel) rfl, by decide +kernel, by decide +kernel, by decide +kernel⟩, tb_at 307 (by decide +kernel) rfl⟩
theorem mX3_25 : MV RX3 25 3 yX3_distance cX3_distance 5 (some .long) 2 := ⟨⟨tb_at 395 (by decide +kernel) rfl, tb_at 6 (by decide +kernel) rfl, tb_at 382 (by decide +kernel) rfl, by decide +kernel, by decide +kernel, by decide +kernel⟩, tb_at 380 (by decide +kernel) rfl, tb_at 381 (by decide +kernel) rfl, TX3, 2, rfl⟩
theorem mX3_31 : MS RX3 31 yJ9_abs_067f4 cJ9_abs_067f4 2 (some .long) 1 := ⟨⟨tb_at 397 (by decide +kernel) rfl, tb_at 8 (by decide +kernel) rfl, tb_at 399 (by decide +kernel) rfl, by decide +kernel, by decide +kernel, by decide +kernel⟩, tb_at 398 (by decide +kernel) rfl⟩
theorem mX3_35 : MS RX3 35 yJ9_floorDiv_f86c9 cJ9_floorDiv_f86c9 6 (some .long) 2 := ⟨⟨tb_at 400 (by decide +kernel) rfl, tb_at 8 (by decide +kernel) rfl, tb_at 278 (by decide +kernel) rfl, by decide +kernel, by decide +kernel, by decide +kernel⟩, tb_at 277 (by decide +kernel) rfl⟩
theorem mX4_39 : MV RX4 39 4 yX4_isIn cX4_isIn 7 (some .boolean) 4 := ⟨⟨tb_at 409 (by decide +kernel) rfl, tb_at 2 (by decide +kernel) rfl, tb_at 412 (by decide +kernel) rfl, by decide +kernel, by decide +kernel, by decide +kernel⟩, tb_at 411 (by decide +kernel) rfl, tb_sel 14 (by decide +kernel) rfl, TX4, 8, rfl⟩
theorem mX4_43 : MS RX4 43 yJ9_floorDiv_7cf53 cJ9_floorDiv_7cf53 3 (some .int) 2 := ⟨⟨tb_at 413 (by decide +kernel) rfl, tb_at 8 (by decide +kernel) rfl, tb_at 415 (by decide +kernel) rfl, by decide +kernel, by decide +kernel, by decide +kernel⟩, tb_at 414 (by decide +kernel) rfl⟩
theorem mX5_15 : MI RX5 15 yX4_init cX4_init 2 none 0 := ⟨⟨tb_at 20 (by decide +kernel) rfl, tb_at 2 (by decide +kernel) rfl, tb_at 22 (by decide +kernel) rfl, by decide +kernel, by decide +kernel, by decide +kernel⟩, tb_at 21 (by decide +kernel) rfl, rfl, rfl⟩
theorem mX5_18 : MI RX5 18 yX1_init cX1_init 1 none 0 := ⟨⟨tb_at 61 (by decide +kernel) rfl, tb_at 3 (by decide +kernel) rfl, tb_at 63 (by decide +kernel) rfl, by decide +kernel, by decide +kernel, by decide +kernel⟩, tb_at 62 (by decide +kernel) rfl, rfl, rfl⟩
theorem mX5_25 : MI RX5 25 yX0_init cX0_init 2 none 0 := ⟨⟨tb_at 82 (by decide +kernel) rfl, tb_at 4 (by decide +kernel) rfl, tb_at 84 (by decide +kernel) rfl, by decide +kernel, by decide +kernel, by decide +kernel⟩, tb_at 83 (by decide +kernel) rfl, rfl, rfl⟩
theorem mX5_32 : MI RX5 32 yX3_init cX3_init 1 none 0 := ⟨⟨tb_at 149 (by decide +kernel) rfl, tb_at 6 (by decide +kernel) rfl, tb_at 151 (by decide +kernel) rfl, by decide +kernel, by decide +kernel, by decide +kernel⟩, tb_at 150 (by decide +kernel) rfl, rfl, rfl⟩
theorem mX5_39 : MI RX5 39 yX2_init cX2_init 1 none 0 := ⟨⟨tb_at 163 (by decide +kernel) rfl, tb_at 5 (by decide +kernel) rfl, tb_at 91 (by decide +kernel) rfl, by decide +kernel, by decide +kernel, by decide +kernel⟩, tb_at 90 (by decide +kernel) rfl, rfl, rfl⟩
theorem mX5_52 : MS RX5 52 yX5_isOnMap cX5_isOnMap 1 (some .boolean) 1 := ⟨⟨tb_at 190 (by decide +kernel) rfl, tb_at 1 (by decide +kernel) rfl, tb_at 192 (by decide +kernel) rfl, by decide +kernel, by decide +kernel, by decide +kernel⟩, tb_at 191 (by decide +kernel) rfl⟩
theorem mX5_57 : MS RX5 57 yX5_isWithin cX5_isWithin 3 (some .boolean) 3 := ⟨⟨tb_at 193 (by decide +kernel) rfl, tb_at 1 (by decide +kernel) rfl, tb_at 195 (by decide +kernel) rfl, by decide +kernel, by decide +kernel, by decide +kernel⟩, tb_at 194 (by decide +kernel) rfl⟩
theorem mX5_61 : MV RX5 61 4 yX4_runFrom cX4_runFrom 4 none 3 := ⟨⟨tb_at 197 (by decide +kernel) rfl, tb_at 2 (by decide +kernel) rfl, tb_at 200 (by decide +kernel) rfl, by decide +kernel, by decide +kernel, by decide +kernel⟩, tb_at 198 (by decide +kernel) rfl, tb_at 199 (by decide +kernel) rfl, TX4, 8, rfl⟩
theorem mX5_65 : MV RX5 65 4 yX4_runTo cX4_runTo 4 none 3 := ⟨⟨tb_at 201 (by decide +kernel) rfl, tb_at 2 (by decide +kernel) rfl, tb_at 204 (by decide +kernel) rfl, by decide +kernel, by decide +kernel, by decide +kernel⟩, tb_at 202 (by decide +kernel) rfl, tb_at 203 (by decide +kernel) rfl, TX4, 8, rfl⟩
theorem mX5_69 : MV RX5 69 5 yX5_isTrack cX5_isTrack 2 (some .boolean) 1 := ⟨⟨tb_at 210 (by decide +kernel) rfl, tb_at 1 (by decide +kernel) rfl, tb_at 213 (by decide +kernel) rfl, by decide +kernel, by decide +kernel, by decide +kernel⟩, tb_at 212 (by decide +kernel) rfl, tb_sel 0 (by decide +kernel) rfl, TX5, 7, rfl⟩
theorem mX5_80 : MV RX5 80 5 yX5_areTwoTracks cX5_areTwoTracks 3 (some .boolean) 2 := ⟨⟨tb_at 223 (by decide +kernel) rfl, tb_at 1 (by decide +kernel) rfl, tb_at 226 (by decide +kernel) rfl, by decide +kernel, by decide +kernel, by decide +kernel⟩, tb_at 225 (by decide +kernel) rfl, tb_sel 1 (by decide +kernel) rfl, TX5, 7, rfl⟩
theorem mX5_84 : MS RX5 84 yX5_isPart cX5_isPart 1 (some .boolean) 1 := ⟨⟨tb_at 227 (by decide +kernel) rfl, tb_at 1 (by decide +kernel) rfl, tb_at 229 (by decide +kernel) rfl, by decide +kernel, by decide +kernel, by decide +kernel⟩, tb_at 228 (by decide +kernel) rfl⟩
theorem mX5_89 : MV RX5 89 1 yX1_find cX1_find 11 none 2 := ⟨⟨tb_at 231 (by decide +kernel) rfl, tb_at 3 (by decide +kernel) rfl, tb_at 234 (by decide +kernel) rfl, by decide +kernel, by decide +kernel, by decide +kernel⟩, tb_at 232 (by decide +kernel) rfl, tb_at 233 (by decide +kernel) rfl, TX1, 4, rfl⟩
theorem mX5_98 : MV RX5 98 1 yX1_aboveOf cX1_aboveOf 4 (some .long) 3 := ⟨⟨tb_at 237 (by decide +kernel) rfl, tb_at 3 (by decide +kernel) rfl, tb_at 240 (by decide +kernel) rfl, by decide +kernel, by decide +kernel, by decide +kernel⟩, tb_at 238 (by decide +kernel) rfl, tb_at 239 (by decide +kernel) rfl, TX1, 4, rfl⟩
theorem mX5_108 : MV RX5 108 2 yX2_become cX2_become 9 none 2 := ⟨⟨tb_at 249 (by decide +kernel) rfl, tb_at 5 (by decide +kernel) rfl, tb_at 252 (by decide +kernel) rfl, by decide +kernel, by decide +kernel, by decide +kernel⟩, tb_at 250 (by decide +kernel) rfl, tb_at 251 (by decide +kernel) rfl, TX2, 2, rfl⟩
theorem mX5_112 : MV RX5 112 2 yX2_partOf cX2_partOf 2 (some .long) 1 := ⟨⟨tb_at 256 (by decide +kernel) rfl, tb_at 5 (by decide +kernel) rfl, tb_at 259 (by decide +kernel) rfl, by decide +kernel, by decide +kernel, by decide +kernel⟩, tb_at 257 (by decide +kernel) rfl, tb_at 258 (by decide +kernel) rfl, TX2, 2, rfl⟩
theorem mX5_117 : MV RX5 117 1 yX1_differenceOf cX1_differenceOf 7 (some .int) 2 := ⟨⟨tb_at 269 (by decide +kernel) rfl, tb_at 3 (by decide +kernel) rfl, tb_at 272 (by decide +kernel) rfl, by decide +kernel, by decide +kernel, by decide +kernel⟩, tb_at 270 (by decide +kernel) rfl, tb_at 271 (by decide +kernel) rfl, TX1, 4, rfl⟩
theorem mX5_121 : MV RX5 121 5 yX5_bringClosingUpToDate cX5_bringClosingUpToDate 1 none 0 := ⟨⟨tb_at 283 (by decide +kernel) rfl, tb_at 1 (by decide +kernel) rfl, tb_at 286 (by decide +kernel) rfl, by decide +kernel, by decide +kernel, by decide +kernel⟩, tb_at 285 (by decide +kernel) rfl, tb_sel 2 (by decide +kernel) rfl, TX5, 7, rfl⟩
theorem mX5_140 : MV RX5 140 0 yX0_squaresLeft cX0_squaresLeft 1 (some .long) 0 := ⟨⟨tb_at 356 (by decide +kernel) rfl, tb_at 4 (by decide +kernel) rfl, tb_at 359 (by decide +kernel) rfl, by decide +kernel, by decide +kernel, by decide +kernel⟩, tb_at 357 (by decide +kernel) rfl, tb_at 358 (by decide +kernel) rfl, TX0, 12, rfl⟩
theorem mX5_151 : MV RX5 151 3 yX3_has cX3_has 2 (some .boolean) 1 := ⟨⟨tb_at 374 (by decide +kernel) rfl, tb_at 6 (by decide +kernel) rfl, tb_at 377 (by decide +kernel) rfl, by decide +kernel, by decide +kernel, by decide +kernel⟩, tb_at 375 (by decide +kernel) rfl, tb_at 376 (by decide +kernel) rfl, TX3, 2, rfl⟩
theorem mX5_156 : MV RX5 156 3 yX3_distance cX3_distance 5 (some .long) 2 := ⟨⟨tb_at 379 (by decide +kernel) rfl, tb_at 6 (by decide +kernel) rfl, tb_at 382 (by decide +kernel) rfl, by decide +kernel, by decide +kernel, by decide +kernel⟩, tb_at 380 (by decide +kernel) rfl, tb_at 381 (by decide +kernel) rfl, TX3, 2, rfl⟩
theorem mX5_165 : MV RX5 165 3 yX3_areToldApart cX3_areToldApart 13 (some .boolean) 4 := ⟨⟨tb_at 391 (by decide +kernel) rfl, tb_at 6 (by decide +kernel) rfl, tb_at 394 (by decide +kernel) rfl, by decide +kernel, by decide +kernel, by decide +kernel⟩, tb_at 392 (by decide +kernel) rfl, tb_at 393 (by decide +kernel) rfl, TX3, 2, rfl⟩
theorem mX5_169 : MV RX5 169 4 yX4_readingsIn cX4_readingsIn 6 (some .int) 3 := ⟨⟨tb_at 405 (by decide +kernel) rfl, tb_at 2 (by decide +kernel) rfl, tb_at 408 (by decide +kernel) rfl, by decide +kernel, by decide +kernel, by decide +kernel⟩, tb_at 406 (by decide +kernel) rfl, tb_at 407 (by decide +kernel) rfl, TX4, 8, rfl⟩
theorem mX5_175 : MV RX5 175 4 yX4_heightsIn cX4_heightsIn 7 (some .long) 3 := ⟨⟨tb_at 417 (by decide +kernel) rfl, tb_at 2 (by decide +kernel) rfl, tb_at 420 (by decide +kernel) rfl, by decide +kernel, by decide +kernel, by decide +kernel⟩, tb_at 418 (by decide +kernel) rfl, tb_at 419 (by decide +kernel) rfl, TX4, 8, rfl⟩
theorem mX5_179 : MV RX5 179 2 yX2_roundedDown cX2_roundedDown 1 (some .long) 0 := ⟨⟨tb_at 421 (by decide +kernel) rfl, tb_at 5 (by decide +kernel) rfl, tb_at 424 (by decide +kernel) rfl, by decide +kernel, by decide +kernel, by decide +kernel⟩, tb_at 422 (by decide +kernel) rfl, tb_at 423 (by decide +kernel) rfl, TX2, 2, rfl⟩
theorem mX5_182 : MV RX5 182 5 yX5_countReadings cX5_countReadings 4 (some .int) 0 := ⟨⟨tb_at 430 (by decide +kernel) rfl, tb_at 1 (by decide +kernel) rfl, tb_at 433 (by decide +kernel) rfl, by decide +kernel, by decide +kernel, by decide +kernel⟩, tb_at 432 (by decide +kernel) rfl, tb_sel 15 (by decide +kernel) rfl, TX5, 7, rfl⟩
theorem mX5_186 : MV RX5 186 5 yX5_countHeldOut cX5_countHeldOut 3 (some .int) 0 := ⟨⟨tb_at 434 (by decide +kernel) rfl, tb_at 1 (by decide +kernel) rfl, tb_at 437 (by decide +kernel) rfl, by decide +kernel, by decide +kernel, by decide +kernel⟩, tb_at 436 (by decide +kernel) rfl, tb_sel 16 (by decide +kernel) rfl, TX5, 7, rfl⟩
theorem mX5_189 : MV RX5 189 0 yX0_close cX0_close 6 none 3 := ⟨⟨tb_at 287 (by decide +kernel) rfl, tb_at 4 (by decide +kernel) rfl, tb_at 290 (by decide +kernel) rfl, by decide +kernel, by decide +kernel, by decide +kernel⟩, tb_at 288 (by decide +kernel) rfl, tb_at 289 (by decide +kernel) rfl, TX0, 12, rfl⟩
theorem mX6_44 : MS RX6 44 yX6_in cX6_in 6 (some .boolean) 3 := ⟨⟨tb_at 510 (by decide +kernel) rfl, tb_at 7 (by decide +kernel) rfl, tb_at 512 (by decide +kernel) rfl, by decide +kernel, by decide +kernel, by decide +kernel⟩, tb_at 511 (by decide +kernel) rfl⟩
theorem mX6_52 : MS RX6 52 yX6_isSpot cX6_isSpot 2 (some .boolean) 2 := ⟨⟨tb_at 505 (by decide +kernel) rfl, tb_at 7 (by decide +kernel) rfl, tb_at 507 (by decide +kernel) rfl, by decide +kernel, by decide +kernel, by decide +kernel⟩, tb_at 506 (by decide +kernel) rfl⟩
theorem mX6_58 : MV RX6 58 6 yX6_isTrack cX6_isTrack 2 (some .boolean) 1 := ⟨⟨tb_at 518 (by decide +kernel) rfl, tb_at 7 (by decide +kernel) rfl, tb_at 521 (by decide +kernel) rfl, by decide +kernel, by decide +kernel, by decide +kernel⟩, tb_at 520 (by decide +kernel) rfl, tb_sel 17 (by decide +kernel) rfl, TX6, 18, rfl⟩
theorem mX6_84 : MS RX6 84 yX6_common cX6_common 10 (some .long) 2 := ⟨⟨tb_at 548 (by decide +kernel) rfl, tb_at 7 (by decide +kernel) rfl, tb_at 550 (by decide +kernel) rfl, by decide +kernel, by decide +kernel, by decide +kernel⟩, tb_at 549 (by decide +kernel) rfl⟩
theorem mX6_92 : MV RX6 92 6 yX6_meet cX6_meet 15 (some .boolean) 2 := ⟨⟨tb_at 536 (by decide +kernel) rfl, tb_at 7 (by decide +kernel) rfl, tb_at 539 (by decide +kernel) rfl, by decide +kernel, by decide +kernel, by decide +kernel⟩, tb_at 538 (by decide +kernel) rfl, tb_sel 18 (by decide +kernel) rfl, TX6, 18, rfl⟩
theorem mX6_97 : MV RX6 97 6 yX6_between cX6_between 7 (some .long) 3 := ⟨⟨tb_at 541 (by decide +kernel) rfl, tb_at 7 (by decide +kernel) rfl, tb_at 544 (by decide +kernel) rfl, by decide +kernel, by decide +kernel, by decide +kernel⟩, tb_at 543 (by decide +kernel) rfl, tb_sel 19 (by decide +kernel) rfl, TX6, 18, rfl⟩
theorem mX6_101 : MS RX6 101 yX6_part cX6_part 5 (some .long) 3 := ⟨⟨tb_at 545 (by decide +kernel) rfl, tb_at 7 (by decide +kernel) rfl, tb_at 547 (by decide +kernel) rfl, by decide +kernel, by decide +kernel, by decide +kernel⟩, tb_at 546 (by decide +kernel) rfl⟩
theorem mX6_105 : MV RX6 105 6 yX6_hasHeight cX6_hasHeight 11 (some .boolean) 2 := ⟨⟨tb_at 551 (by decide +kernel) rfl, tb_at 7 (by decide +kernel) rfl, tb_at 554 (by decide +kernel) rfl, by decide +kernel, by decide +kernel, by decide +kernel⟩, tb_at 553 (by decide +kernel) rfl, tb_sel 20 (by decide +kernel) rfl, TX6, 18, rfl⟩
theorem mX6_111 : MS RX6 111 yX6_down cX6_down 4 (some .long) 2 := ⟨⟨tb_at 570 (by decide +kernel) rfl, tb_at 7 (by decide +kernel) rfl, tb_at 572 (by decide +kernel) rfl, by decide +kernel, by decide +kernel, by decide +kernel⟩, tb_at 571 (by decide +kernel) rfl⟩
theorem mX6_118 : MV RX6 118 6 yX6_differ cX6_differ 6 (some .boolean) 2 := ⟨⟨tb_at 565 (by decide +kernel) rfl, tb_at 7 (by decide +kernel) rfl, tb_at 568 (by decide +kernel) rfl, by decide +kernel, by decide +kernel, by decide +kernel⟩, tb_at 567 (by decide +kernel) rfl, tb_sel 21 (by decide +kernel) rfl, TX6, 18, rfl⟩
theorem mX6_122 : MV RX6 122 6 yX6_nets cX6_nets 5 none 0 := ⟨⟨tb_at 578 (by decide +kernel) rfl, tb_at 7 (by decide +kernel) rfl, tb_at 581 (by decide +kernel) rfl, by decide +kernel, by decide +kernel, by decide +kernel⟩, tb_at 580 (by decide +kernel) rfl, tb_sel 22 (by decide +kernel) rfl, TX6, 18, rfl⟩
theorem mX6_125 : MV RX6 125 6 yX6_members cX6_members 4 (some .int) 1 := ⟨⟨tb_at 582 (by decide +kernel) rfl, tb_at 7 (by decide +kernel) rfl, tb_at 585 (by decide +kernel) rfl, by decide +kernel, by decide +kernel, by decide +kernel⟩, tb_at 584 (by decide +kernel) rfl, tb_sel 23 (by decide +kernel) rfl, TX6, 18, rfl⟩
theorem mX6_129 : MV RX6 129 6 yX6_clears cX6_clears 9 none 3 := ⟨⟨tb_at 599 (by decide +kernel) rfl, tb_at 7 (by decide +kernel) rfl, tb_at 602 (by decide +kernel) rfl, by decide +kernel, by decide +kernel, by decide +kernel⟩, tb_at 601 (by decide +kernel) rfl, tb_sel 26 (by decide +kernel) rfl, TX6, 18, rfl⟩
theorem mX6_133 : MV RX6 133 6 yX6_backs cX6_backs 8 none 2 := ⟨⟨tb_at 603 (by decide +kernel) rfl, tb_at 7 (by decide +kernel) rfl, tb_at 606 (by decide +kernel) rfl, by decide +kernel, by decide +kernel, by decide +kernel⟩, tb_at 605 (by decide +kernel) rfl, tb_sel 27 (by decide +kernel) rfl, TX6, 18, rfl⟩
theorem mX6_137 : MV RX6 137 6 yX6_solves cX6_solves 6 none 1 := ⟨⟨tb_at 595 (by decide +kernel) rfl, tb_at 7 (by decide +kernel) rfl, tb_at 598 (by decide +kernel) rfl, by decide +kernel, by decide +kernel, by decide +kernel⟩, tb_at 597 (by decide +kernel) rfl, tb_sel 25 (by decide +kernel) rfl, TX6, 18, rfl⟩
theorem mX6_149 : MV RX6 149 6 yX6_offs cX6_offs 2 none 0 := ⟨⟨tb_at 591 (by decide +kernel) rfl, tb_at 7 (by decide +kernel) rfl, tb_at 594 (by decide +kernel) rfl, by decide +kernel, by decide +kernel, by decide +kernel⟩, tb_at 593 (by decide +kernel) rfl, tb_sel 24 (by decide +kernel) rfl, TX6, 18, rfl⟩
theorem mX6_152 : MV RX6 152 6 yX6_offOf cX6_offOf 6 none 1 := ⟨⟨tb_at 607 (by decide +kernel) rfl, tb_at 7 (by decide +kernel) rfl, tb_at 610 (by decide +kernel) rfl, by decide +kernel, by decide +kernel, by decide +kernel⟩, tb_at 609 (by decide +kernel) rfl, tb_sel 28 (by decide +kernel) rfl, TX6, 18, rfl⟩
theorem mX6_155 : MV RX6 155 6 yX6_before cX6_before 5 (some .long) 0 := ⟨⟨tb_at 619 (by decide +kernel) rfl, tb_at 7 (by decide +kernel) rfl, tb_at 614 (by decide +kernel) rfl, by decide +kernel, by decide +kernel, by decide +kernel⟩, tb_at 612 (by decide +kernel) rfl, tb_at 613 (by decide +kernel) rfl, TX6, 18, rfl⟩
theorem mX6_162 : MV RX6 162 6 yX6_isTone cX6_isTone 2 (some .boolean) 1 := ⟨⟨tb_at 632 (by decide +kernel) rfl, tb_at 7 (by decide +kernel) rfl, tb_at 635 (by decide +kernel) rfl, by decide +kernel, by decide +kernel, by decide +kernel⟩, tb_at 634 (by decide +kernel) rfl, tb_sel 29 (by decide +kernel) rfl, TX6, 18, rfl⟩
theorem mX6_167 : MS RX6 167 yX6_least cX6_least 6 (some .long) 2 := ⟨⟨tb_at 637 (by decide +kernel) rfl, tb_at 7 (by decide +kernel) rfl, tb_at 639 (by decide +kernel) rfl, by decide +kernel, by decide +kernel, by decide +kernel⟩, tb_at 638 (by decide +kernel) rfl⟩
theorem kX0_90 : Cond.constant RX0 90 (-1000000002) ∈ tbw := tb_at 301 (by decide +kernel) rfl
theorem kX1_57 : Cond.constant RX1 57 (-1000000002) ∈ tbw := tb_at 273 (by decide +kernel) rfl
theorem kX4_15 : Cond.constant RX4 15 (200000) ∈ tbw := tb_at 24 (by decide +kernel) rfl
theorem kX5_56 : Cond.constant RX5 56 (1000000) ∈ tbw := tb_at 196 (by decide +kernel) rfl
theorem kX5_68 : Cond.constant RX5 68 (200000) ∈ tbw := tb_at 209 (by decide +kernel) rfl
theorem kX5_72 : Cond.constant RX5 72 (300000) ∈ tbw := tb_at 214 (by decide +kernel) rfl
theorem kX5_116 : Cond.constant RX5 116 (-1000000001) ∈ tbw := tb_at 268 (by decide +kernel) rfl
theorem kX5_144 : Cond.constant RX5 144 (-1000000002) ∈ tbw := tb_at 365 (by decide +kernel) rfl
theorem kX5_164 : Cond.constant RX5 164 (100000) ∈ tbw := tb_at 390 (by decide +kernel) rfl
theorem kX6_39 : Cond.constant RX6 39 (200000) ∈ tbw := tb_at 444 (by decide +kernel) rfl
theorem kX6_68 : Cond.constant RX6 68 (300000) ∈ tbw := tb_at 525 (by decide +kernel) rfl
theorem kX6_117 : Cond.constant RX6 117 (-1000000001) ∈ tbw := tb_at 564 (by decide +kernel) rfl
theorem kX6_121 : Cond.constant RX6 121 (-1000000002) ∈ tbw := tb_at 573 (by decide +kernel) rfl
theorem kX1_28 : Cond.constantLong RX1 28 (-1) ∈ tbw := tb_at 235 (by decide +kernel) rfl
theorem kX1_52 : Cond.constantLong RX1 52 (-1000000000000000000) ∈ tbw := tb_at 247 (by decide +kernel) rfl
theorem kX1_62 : Cond.constantLong RX1 62 (10) ∈ tbw := tb_at 275 (by decide +kernel) rfl
theorem kX3_29 : Cond.constantLong RX3 29 (1000) ∈ tbw := tb_at 396 (by decide +kernel) rfl
theorem kX4_35 : Cond.constantLong RX4 35 (-1000000000000000000) ∈ tbw := tb_at 245 (by decide +kernel) rfl
theorem kX4_37 : Cond.constantLong RX4 37 (8) ∈ tbw := tb_at 246 (by decide +kernel) rfl
theorem kX5_87 : Cond.constantLong RX5 87 (-1000000001) ∈ tbw := tb_at 230 (by decide +kernel) rfl
theorem kX5_96 : Cond.constantLong RX5 96 (-1000000002) ∈ tbw := tb_at 236 (by decide +kernel) rfl
theorem kX5_102 : Cond.constantLong RX5 102 (-1000000000000000000) ∈ tbw := tb_at 248 (by decide +kernel) rfl
theorem kX5_154 : Cond.constantLong RX5 154 (-1) ∈ tbw := tb_at 378 (by decide +kernel) rfl
theorem kX5_160 : Cond.constantLong RX5 160 (-4) ∈ tbw := tb_at 384 (by decide +kernel) rfl
theorem kX5_162 : Cond.constantLong RX5 162 (1000) ∈ tbw := tb_at 385 (by decide +kernel) rfl
theorem kX5_173 : Cond.constantLong RX5 173 (10) ∈ tbw := tb_at 416 (by decide +kernel) rfl
theorem kX6_48 : Cond.constantLong RX6 48 (-100) ∈ tbw := tb_at 508 (by decide +kernel) rfl
theorem kX6_50 : Cond.constantLong RX6 50 (100) ∈ tbw := tb_at 509 (by decide +kernel) rfl
theorem kX6_56 : Cond.constantLong RX6 56 (1000000) ∈ tbw := tb_at 513 (by decide +kernel) rfl
theorem kX6_62 : Cond.constantLong RX6 62 (8) ∈ tbw := tb_at 522 (by decide +kernel) rfl
theorem kX6_64 : Cond.constantLong RX6 64 (-10000) ∈ tbw := tb_at 523 (by decide +kernel) rfl
theorem kX6_66 : Cond.constantLong RX6 66 (10000) ∈ tbw := tb_at 524 (by decide +kernel) rfl
theorem kX6_82 : Cond.constantLong RX6 82 (200000) ∈ tbw := tb_at 555 (by decide +kernel) rfl
theorem kX6_88 : Cond.constantLong RX6 88 (7) ∈ tbw := tb_at 534 (by decide +kernel) rfl
theorem kX6_90 : Cond.constantLong RX6 90 (-1000000001) ∈ tbw := tb_at 535 (by decide +kernel) rfl
theorem kX6_95 : Cond.constantLong RX6 95 (-1000000002) ∈ tbw := tb_at 540 (by decide +kernel) rfl
theorem kX6_109 : Cond.constantLong RX6 109 (10) ∈ tbw := tb_at 569 (by decide +kernel) rfl
theorem kX6_147 : Cond.constantLong RX6 147 (-1000000000000000000) ∈ tbw := tb_at 590 (by decide +kernel) rfl
theorem kX6_165 : Cond.constantLong RX6 165 (-1) ∈ tbw := tb_at 636 (by decide +kernel) rfl
theorem kX6_170 : Cond.constantLong RX6 170 (-4) ∈ tbw := tb_at 640 (by decide +kernel) rfl
theorem kX6_172 : Cond.constantLong RX6 172 (1000) ∈ tbw := tb_at 641 (by decide +kernel) rfl
theorem kX6_174 : Cond.constantLong RX6 174 (100000) ∈ tbw := tb_at 646 (by decide +kernel) rfl
theorem kX6_176 : Cond.constantLong RX6 176 (50) ∈ tbw := tb_at 651 (by decide +kernel) rfl
end
section
/-! layout by number; places by natural numbers; forms of answers -/
theorem lay_0 : lay 0 = .inr (.inr (5, [.inr 1, .inr 18, .inr 19, .inr 50, .inr 52, .inl 0, .inl 2])) := rfl
theorem lay_1 : lay 1 = .inr (.inl (0, 8, fun i => if i < 8 then some (2 + 2 * i) else none)) := rfl
theorem lay_18 : lay 18 = .inr (.inr (1, [.inl 2, .inl 1, .inl 1, .inl 1])) := rfl
theorem lay_19 : lay 19 = .inr (.inr (0, [.inr 20, .inl 0, .inl 0, .inl 0, .inl 1, .inr 29, .inr 38, .inr 39, .inr 40, .inr 49, .inl 1, .inl 1])) := rfl
theorem lay_20 : lay 20 = .inr (.inl (1, 8, fun i => if i < 8 then some (21 + i) else none)) := rfl
theorem lay_29 : lay 29 = .inr (.inl (2, 8, fun i => if i < 8 then some (30 + i) else none)) := rfl
theorem lay_38 : lay 38 = .inl (0, 8) := rfl
theorem lay_39 : lay 39 = .inl (0, 8) := rfl
theorem lay_40 : lay 40 = .inr (.inl (3, 8, fun i => if i < 8 then some (41 + i) else none)) := rfl
theorem lay_49 : lay 49 = .inl (1, 8) := rfl
theorem lay_50 : lay 50 = .inr (.inr (3, [.inr 51, .inl 0])) := rfl
theorem lay_51 : lay 51 = .inl (0, 6) := rfl
theorem lay_52 : lay 52 = lFrc := rfl
theorem lay_53 : lay 53 = .inr (.inr (6, [.inl 0, .inr 54, .inr 55, .inr 56, .inl 0, .inr 57, .inl 1, .inl 1, .inl 1, .inl 1, .inl 1, .inr 58, .inr 59, .inr 60, .inr 61, .inr 62, .inl 1, .inl 1])) := rfl
theorem lay_54 : lay 54 = .inl (0, 48) := rfl
theorem lay_55 : lay 55 = .inl (0, 72) := rfl
theorem lay_56 : lay 56 = .inl (2, 8) := rfl
theorem lay_57 : lay 57 = .inl (0, 6) := rfl
theorem lay_58 : lay 58 = .inl (0, 8) := rfl
theorem lay_59 : lay 59 = .inl (0, 8) := rfl
theorem lay_60 : lay 60 = .inl (1, 64) := rfl
theorem lay_61 : lay 61 = .inl (1, 8) := rfl
theorem lay_62 : lay 62 = .inl (1, 8) := rfl
section EN
variable {l : Launch} {y : MethodName} {cc : ByteArray} {nL : Nat} {rt : Option FieldType} {R : Room} {E : EE} {Z : ZZ} {n0 pc : Nat} {ls : List (Option PV)} {st : List PV} {ce sl : Nat} {M : Mem}
theorem en_iald (i : Nat) (hd : decode cc pc = .ok (.iaload, 1)) {r m : Nat} {z : Int} (hl : lay r = .inl (0, m)) (hi : z = (i : Int)) (him : i < m) (kk : Ev l y cc nL rt R E Z n0 (pc + 1) ls (vI (M r i) :: st) 63 ce sl (hp M)) (hm : m < 2147483648 := by decide) (hr : r < 63 := by omega) : Ev l y cc nL rt R E Z n0 pc ls (vI z :: vR r :: st) 63 ce sl (hp M) := by
  subst hi
  exact em_iald hd hl (by omega) (by rw [Int.toNat_natCast]; exact kk) hm hr
theorem en_zald (i : Nat) (hd : decode cc pc = .ok (.baload, 1)) {r m : Nat} {z : Int} (hl : lay r = .inl (2, m)) (hi : z = (i : Int)) (him : i < m) (kk : Ev l y cc nL rt R E Z n0 (pc + 1) ls (vI (M r i) :: st) 63 ce sl (hp M)) (hm : m < 2147483648 := by decide) (hr : r < 63 := by omega) : Ev l y cc nL rt R E Z n0 pc ls (vI z :: vR r :: st) 63 ce sl (hp M) := by
  subst hi
  exact em_zald hd hl (by omega) (by rw [Int.toNat_natCast]; exact kk) hm hr
theorem en_lald (i : Nat) (hd : decode cc pc = .ok (.laload, 1)) {r m : Nat} {z : Int} (hl : lay r = .inl (1, m)) (hi : z = (i : Int)) (him : i < m) (kk : Ev l y cc nL rt R E Z n0 (pc + 1) ls (vL (M r i) :: st) 63 ce sl (hp M)) (hm : m < 2147483648 := by decide) (hr : r < 63 := by omega) : Ev l y cc nL rt R E Z n0 pc ls (vI z :: vR r :: st) 63 ce sl (hp M) := by
  subst hi
  exact em_lald hd hl (by omega) (by rw [Int.toNat_natCast]; exact kk) hm hr
theorem en_iast (i : Nat) (hd : decode cc pc = .ok (.iastore, 1)) {r m : Nat} {z x : Int} (hl : lay r = .inl (0, m)) (hi : z = (i : Int)) (him : i < m) (kk : Ev l y cc nL rt R E Z n0 (pc + 1) ls st 63 ce sl (hp (up2 M r i x))) (hm : m < 2147483648 := by decide) (hr : r < 63 := by omega) : Ev l y cc nL rt R E Z n0 pc ls (vI x :: vI z :: vR r :: st) 63 ce sl (hp M) := by
  subst hi
  exact em_iast hd hl (by omega) (by rw [Int.toNat_natCast]; exact kk) hm hr
theorem en_zast (i : Nat) (hd : decode cc pc = .ok (.bastore, 1)) {r m : Nat} {z x : Int} (hl : lay r = .inl (2, m)) (hi : z = (i : Int)) (him : i < m) (hx : x = 0 ∨ x = 1) (kk : Ev l y cc nL rt R E Z n0 (pc + 1) ls st 63 ce sl (hp (up2 M r i x))) (hm : m < 2147483648 := by decide) (hr : r < 63 := by omega) : Ev l y cc nL rt R E Z n0 pc ls (vI x :: vI z :: vR r :: st) 63 ce sl (hp M) := by
  subst hi
  exact em_zast hd hl (by omega) hx (by rw [Int.toNat_natCast]; exact kk) hm hr
theorem en_last (i : Nat) (hd : decode cc pc = .ok (.lastore, 1)) {r m : Nat} {z x : Int} (hl : lay r = .inl (1, m)) (hi : z = (i : Int)) (him : i < m) (kk : Ev l y cc nL rt R E Z n0 (pc + 1) ls st 63 ce sl (hp (up2 M r i x))) (hm : m < 2147483648 := by decide) (hr : r < 63 := by omega) : Ev l y cc nL rt R E Z n0 pc ls (vL x :: vI z :: vR r :: st) 63 ce sl (hp M) := by
  subst hi
  exact em_last hd hl (by omega) (by rw [Int.toNat_natCast]; exact kk) hm hr
theorem en_trk (i : Nat) (hd : decode cc pc = .ok (.aaload, 1)) {z : Int} (hi : z = (i : Int)) (him : i < 8) (kk : Ev l y cc nL rt R E Z n0 (pc + 1) ls (vR (2 + 2 * i) :: st) 63 ce sl (hp M)) : Ev l y cc nL rt R E Z n0 pc ls (vI z :: vR 1 :: st) 63 ce sl (hp M) := by
  subst hi
  exact em_aald hd lay_1 (by omega) (by rw [Int.toNat_natCast]; exact if_pos him) kk
theorem en_frc (i : Nat) (hd : decode cc pc = .ok (.aaload, 1)) {z : Int} (hi : z = (i : Int)) (him : i < 8) (kk : Ev l y cc nL rt R E Z n0 (pc + 1) ls (vR (21 + i) :: st) 63 ce sl (hp M)) : Ev l y cc nL rt R E Z n0 pc ls (vI z :: vR 20 :: st) 63 ce sl (hp M) := by
  subst hi
  exact em_aald hd lay_20 (by omega) (by rw [Int.toNat_natCast]; exact if_pos him) kk
theorem en_dif (i : Nat) (hd : decode cc pc = .ok (.aaload, 1)) {z : Int} (hi : z = (i : Int)) (him : i < 8) (kk : Ev l y cc nL rt R E Z n0 (pc + 1) ls (vR (30 + i) :: st) 63 ce sl (hp M)) : Ev l y cc nL rt R E Z n0 pc ls (vI z :: vR 29 :: st) 63 ce sl (hp M) := by
  subst hi
  exact em_aald hd lay_29 (by omega) (by rw [Int.toNat_natCast]; exact if_pos him) kk
theorem en_row (i : Nat) (hd : decode cc pc = .ok (.aaload, 1)) {z : Int} (hi : z = (i : Int)) (him : i < 8) (kk : Ev l y cc nL rt R E Z n0 (pc + 1) ls (vR (41 + i) :: st) 63 ce sl (hp M)) : Ev l y cc nL rt R E Z n0 pc ls (vI z :: vR 40 :: st) 63 ce sl (hp M) := by
  subst hi
  exact em_aald hd lay_40 (by omega) (by rw [Int.toNat_natCast]; exact if_pos him) kk
end EN
theorem cmo {l : Launch} {y : MethodName} {cc : ByteArray} {nL : Nat} {rt : Option FieldType} {fr lo : Nat} {av : List PV} {M : Mem} {Q : QM} (ls : List (Option PV)) (k : Em l y cc nL rt fr lo Q 0 ls [] M) (hpl : plainName y.cls = true := by decide +kernel) (hlen : (enl av).length ≤ nL := by exact Nat.le_of_ble_eq_true rfl) (hls : enl av ++ List.replicate (nL - (enl av).length) none = ls := by rfl) : Cm l y cc nL rt fr lo av M Q := con_of ls hpl hlen hls k
def rI (x : Int) (M : Mem) : QM := fun r M' => M' = M ∧ r = some (vI x)
def rL (x : Int) (M : Mem) : QM := fun r M' => M' = M ∧ r = some (vL x)
def rV (M : Mem) : QM := fun r M' => M' = M ∧ r = none
def rB (P : Prop) (M : Mem) : QM := fun r M' => M' = M ∧ ∃ z : Int, r = some (vI z) ∧ ((z = 0 ∧ ¬ P) ∨ (z = 1 ∧ P))
abbrev i32 (x : Int) : Prop := -2147483648 ≤ x ∧ x < 2147483648
abbrev i64 (x : Int) : Prop := -9223372036854775808 ≤ x ∧ x < 9223372036854775808

theorem con_ofF {l : Launch} {y : MethodName} {cc : ByteArray} {nL : Nat} {rt : Option FieldType} {fr lo mc ms : Nat} {av : List PV} {n : Nat} {h : HP} {Q : Option PV → Nat → HP → Prop} (ls : List (Option PV)) (hpl : plainFor y = true) (hlen : (enl av).length ≤ nL) (hls : enl av ++ List.replicate (nL - (enl av).length) none = ls)
    (k : Ev l y cc nL rt { frames := fr, cells := mc, slots := ms, locals := lo } eT (zM Q n mc ms) n 0 ls [] n 0 0 h) : Con l y cc nL rt fr lo mc ms av n h Q := by
  intro D dA ad sz
  refine va_MetF (cc := cc) (maxL := nL) (ret := rt) hpl rfl ?_
  intro p e s m args below meth c s₁ B hml hv
  obtain ⟨rfl, hsz, hP, hK, hD0⟩ := hv
  subst hsz
  have hts : ∀ w ∈ tbw, w.before (av.map (pm_v ad)).toArray s = true := fun w hw => atoms_spec (ws := .code y cc nL rt :: tbw) B.pre w (List.mem_cons_of_mem _ hw)
  have C : Cx y cc nL rt p s m (av.map (pm_v ad)).toArray meth c := ⟨B.exec, B.bytes, B.returns, hml, findClass_of_methodNamed B.named, hts, B.notSynchronized, (name_of_methodNamed B.named B.method).1⟩
  rw [lg_entry_eq]
  have he := lv_entry (av.map (pm_v ad)) (n := nL) (by rw [enl_len]; exact hlen)
  subst hls
  exact k p e s m _ below meth c C D dA ad ad _ s.heap [] _ trivial (Nat.le_refl _) (fun _ _ => rfl) (fun _ => rfl) hK hP hD0.self va_S.rf (fun q h => Or.inr h) ⟨he.1, he.2.1, fun i v hi => he.2.2 (i, pm_v ad v) (by have := enl_args (ad := ad) av 0 i v hi; rwa [Nat.zero_add] at this)⟩
theorem cmoF {l : Launch} {y : MethodName} {cc : ByteArray} {nL : Nat} {rt : Option FieldType} {fr lo : Nat} {av : List PV} {M : Mem} {Q : QM} (ls : List (Option PV)) (k : Em l y cc nL rt fr lo Q 0 ls [] M) (hpl : plainFor y = true := by decide +kernel) (hlen : (enl av).length ≤ nL := by exact Nat.le_of_ble_eq_true rfl) (hls : enl av ++ List.replicate (nL - (enl av).length) none = ls := by rfl) : Cm l y cc nL rt fr lo av M Q := con_ofF ls hpl hlen hls k
theorem ev_ls {l : Launch} {y : MethodName} {cc : ByteArray} {nL : Nat} {rt : Option FieldType} {R : Room} {E : EE} {Z : ZZ} {n0 pc : Nat} {ls : List (Option PV)} {st : List PV} {n ce sl : Nat} {h : HP} (ls2 : List (Option PV)) (e : ls = ls2) (k : Ev l y cc nL rt R E Z n0 pc ls2 st n ce sl h) : Ev l y cc nL rt R E Z n0 pc ls st n ce sl h := e ▸ k
section ED
variable {l : Launch} {y : MethodName} {cc : ByteArray} {nL : Nat} {rt : Option FieldType} {R : Room} {E : EE} {Z : ZZ} {n0 pc : Nat} {ls : List (Option PV)} {st : List PV} {n ce sl : Nat} {h : HP}
theorem ev_idiv {a b : Int} (hd : decode cc pc = .ok (.idiv, 1)) (ha : -2147483648 ≤ a ∧ a < 2147483648) (hb : -2147483648 ≤ b ∧ b < 2147483648) (h0 : b ≠ 0) (k : Ev l y cc nL rt R E Z n0 (pc + 1) ls (vI (a.tdiv b) :: st) n ce sl h) : Ev l y cc nL rt R E Z n0 pc ls (vI b :: vI a :: st) n ce sl h :=
  ev_STP (fun ad C hl k => lv_idiv C.1 C.2.1 hd (pm_ne32 hb h0) (by rw [pm_div32 ha hb]; exact k)) k
end ED
section EK
variable {l : Launch} {y : MethodName} {cc : ByteArray} {nL : Nat} {rt : Option FieldType} {R : Room} {E : EE} {Z : ZZ} {n0 pc : Nat} {ls : List (Option PV)} {st : List PV} {ce sl : Nat} {M : Mem}
theorem em_V0 {idx ci b : Nat} {z : MethodName} {cz : ByteArray} {nz : Nat} {rz : Option FieldType} {fr lo : Nat} {ts : List FT} {Qz : QM} (hcon : Cm l z cz nz rz fr lo [vR b] M Qz) (hm : MV y.cls idx ci z cz nz rz 0) (hd : decode cc pc = .ok (.invokevirtual idx, 3)) (hl : lay b = .inr (.inr (ci, ts))) (kk : ∀ r M', Qz r M' → Ev l y cc nL rt R E Z n0 (pc + 3) ls (r.toList ++ st) 63 ce sl (hp M')) (hR : fr + 1 ≤ R.frames ∧ 8 + (nz + 11) + lo ≤ R.locals := by decide) (hcs : ce ≤ R.cells ∧ sl ≤ R.slots := by decide) (hb : b < 63 := by omega) (hcat : (st.map pcat).sum ≤ 8 := by simp [pcat]) : Ev l y cc nL rt R E Z n0 pc ls (vR b :: st) 63 ce sl (hp M) :=
  em_callV [] st hcon hm hd hl kk hR hcs hb rfl rfl hcat
theorem em_V1 {idx ci b : Nat} {z : MethodName} {cz : ByteArray} {nz : Nat} {rz : Option FieldType} {fr lo : Nat} {ts : List FT} {Qz : QM} {a1 : PV} (hcon : Cm l z cz nz rz fr lo [vR b, a1] M Qz) (hm : MV y.cls idx ci z cz nz rz 1) (hd : decode cc pc = .ok (.invokevirtual idx, 3)) (hl : lay b = .inr (.inr (ci, ts))) (kk : ∀ r M', Qz r M' → Ev l y cc nL rt R E Z n0 (pc + 3) ls (r.toList ++ st) 63 ce sl (hp M')) (hR : fr + 1 ≤ R.frames ∧ 8 + (nz + 11) + lo ≤ R.locals := by decide) (hcs : ce ≤ R.cells ∧ sl ≤ R.slots := by decide) (hb : b < 63 := by omega) (hcat : (st.map pcat).sum ≤ 8 := by simp [pcat]) : Ev l y cc nL rt R E Z n0 pc ls (a1 :: vR b :: st) 63 ce sl (hp M) :=
  em_callV [a1] st hcon hm hd hl kk hR hcs hb rfl rfl hcat
theorem em_S1 {idx : Nat} {z : MethodName} {cz : ByteArray} {nz : Nat} {rz : Option FieldType} {fr lo : Nat} {Qz : QM} {a1 : PV} (hcon : Cm l z cz nz rz fr lo [a1] M Qz) (hm : MS y.cls idx z cz nz rz 1) (hd : decode cc pc = .ok (.invokestatic idx, 3)) (kk : ∀ r M', Qz r M' → Ev l y cc nL rt R E Z n0 (pc + 3) ls (r.toList ++ st) 63 ce sl (hp M')) (hR : fr + 1 ≤ R.frames ∧ 8 + (nz + 11) + lo ≤ R.locals := by decide) (hcs : ce ≤ R.cells ∧ sl ≤ R.slots := by decide) (hcat : (st.map pcat).sum ≤ 8 := by simp [pcat]) : Ev l y cc nL rt R E Z n0 pc ls (a1 :: st) 63 ce sl (hp M) :=
  em_callS [a1] st hcon hm hd kk hR hcs rfl rfl hcat
theorem em_V2 {idx ci b : Nat} {z : MethodName} {cz : ByteArray} {nz : Nat} {rz : Option FieldType} {fr lo : Nat} {ts : List FT} {Qz : QM} {a1 a2 : PV} (hcon : Cm l z cz nz rz fr lo [vR b, a1, a2] M Qz) (hm : MV y.cls idx ci z cz nz rz 2) (hd : decode cc pc = .ok (.invokevirtual idx, 3)) (hl : lay b = .inr (.inr (ci, ts))) (kk : ∀ r M', Qz r M' → Ev l y cc nL rt R E Z n0 (pc + 3) ls (r.toList ++ st) 63 ce sl (hp M')) (hR : fr + 1 ≤ R.frames ∧ 8 + (nz + 11) + lo ≤ R.locals := by decide) (hcs : ce ≤ R.cells ∧ sl ≤ R.slots := by decide) (hb : b < 63 := by omega) (hcat : (st.map pcat).sum ≤ 8 := by simp [pcat]) : Ev l y cc nL rt R E Z n0 pc ls (a2 :: a1 :: vR b :: st) 63 ce sl (hp M) :=
  em_callV [a1, a2] st hcon hm hd hl kk hR hcs hb rfl rfl hcat
theorem em_S2 {idx : Nat} {z : MethodName} {cz : ByteArray} {nz : Nat} {rz : Option FieldType} {fr lo : Nat} {Qz : QM} {a1 a2 : PV} (hcon : Cm l z cz nz rz fr lo [a1, a2] M Qz) (hm : MS y.cls idx z cz nz rz 2) (hd : decode cc pc = .ok (.invokestatic idx, 3)) (kk : ∀ r M', Qz r M' → Ev l y cc nL rt R E Z n0 (pc + 3) ls (r.toList ++ st) 63 ce sl (hp M')) (hR : fr + 1 ≤ R.frames ∧ 8 + (nz + 11) + lo ≤ R.locals := by decide) (hcs : ce ≤ R.cells ∧ sl ≤ R.slots := by decide) (hcat : (st.map pcat).sum ≤ 8 := by simp [pcat]) : Ev l y cc nL rt R E Z n0 pc ls (a2 :: a1 :: st) 63 ce sl (hp M) :=
  em_callS [a1, a2] st hcon hm hd kk hR hcs rfl rfl hcat
theorem em_V3 {idx ci b : Nat} {z : MethodName} {cz : ByteArray} {nz : Nat} {rz : Option FieldType} {fr lo : Nat} {ts : List FT} {Qz : QM} {a1 a2 a3 : PV} (hcon : Cm l z cz nz rz fr lo [vR b, a1, a2, a3] M Qz) (hm : MV y.cls idx ci z cz nz rz 3) (hd : decode cc pc = .ok (.invokevirtual idx, 3)) (hl : lay b = .inr (.inr (ci, ts))) (kk : ∀ r M', Qz r M' → Ev l y cc nL rt R E Z n0 (pc + 3) ls (r.toList ++ st) 63 ce sl (hp M')) (hR : fr + 1 ≤ R.frames ∧ 8 + (nz + 11) + lo ≤ R.locals := by decide) (hcs : ce ≤ R.cells ∧ sl ≤ R.slots := by decide) (hb : b < 63 := by omega) (hcat : (st.map pcat).sum ≤ 8 := by simp [pcat]) : Ev l y cc nL rt R E Z n0 pc ls (a3 :: a2 :: a1 :: vR b :: st) 63 ce sl (hp M) :=
  em_callV [a1, a2, a3] st hcon hm hd hl kk hR hcs hb rfl rfl hcat
theorem em_S3 {idx : Nat} {z : MethodName} {cz : ByteArray} {nz : Nat} {rz : Option FieldType} {fr lo : Nat} {Qz : QM} {a1 a2 a3 : PV} (hcon : Cm l z cz nz rz fr lo [a1, a2, a3] M Qz) (hm : MS y.cls idx z cz nz rz 3) (hd : decode cc pc = .ok (.invokestatic idx, 3)) (kk : ∀ r M', Qz r M' → Ev l y cc nL rt R E Z n0 (pc + 3) ls (r.toList ++ st) 63 ce sl (hp M')) (hR : fr + 1 ≤ R.frames ∧ 8 + (nz + 11) + lo ≤ R.locals := by decide) (hcs : ce ≤ R.cells ∧ sl ≤ R.slots := by decide) (hcat : (st.map pcat).sum ≤ 8 := by simp [pcat]) : Ev l y cc nL rt R E Z n0 pc ls (a3 :: a2 :: a1 :: st) 63 ce sl (hp M) :=
  em_callS [a1, a2, a3] st hcon hm hd kk hR hcs rfl rfl hcat
theorem em_V4 {idx ci b : Nat} {z : MethodName} {cz : ByteArray} {nz : Nat} {rz : Option FieldType} {fr lo : Nat} {ts : List FT} {Qz : QM} {a1 a2 a3 a4 : PV} (hcon : Cm l z cz nz rz fr lo [vR b, a1, a2, a3, a4] M Qz) (hm : MV y.cls idx ci z cz nz rz 4) (hd : decode cc pc = .ok (.invokevirtual idx, 3)) (hl : lay b = .inr (.inr (ci, ts))) (kk : ∀ r M', Qz r M' → Ev l y cc nL rt R E Z n0 (pc + 3) ls (r.toList ++ st) 63 ce sl (hp M')) (hR : fr + 1 ≤ R.frames ∧ 8 + (nz + 11) + lo ≤ R.locals := by decide) (hcs : ce ≤ R.cells ∧ sl ≤ R.slots := by decide) (hb : b < 63 := by omega) (hcat : (st.map pcat).sum ≤ 8 := by simp [pcat]) : Ev l y cc nL rt R E Z n0 pc ls (a4 :: a3 :: a2 :: a1 :: vR b :: st) 63 ce sl (hp M) :=
  em_callV [a1, a2, a3, a4] st hcon hm hd hl kk hR hcs hb rfl rfl hcat
theorem em_S4 {idx : Nat} {z : MethodName} {cz : ByteArray} {nz : Nat} {rz : Option FieldType} {fr lo : Nat} {Qz : QM} {a1 a2 a3 a4 : PV} (hcon : Cm l z cz nz rz fr lo [a1, a2, a3, a4] M Qz) (hm : MS y.cls idx z cz nz rz 4) (hd : decode cc pc = .ok (.invokestatic idx, 3)) (kk : ∀ r M', Qz r M' → Ev l y cc nL rt R E Z n0 (pc + 3) ls (r.toList ++ st) 63 ce sl (hp M')) (hR : fr + 1 ≤ R.frames ∧ 8 + (nz + 11) + lo ≤ R.locals := by decide) (hcs : ce ≤ R.cells ∧ sl ≤ R.slots := by decide) (hcat : (st.map pcat).sum ≤ 8 := by simp [pcat]) : Ev l y cc nL rt R E Z n0 pc ls (a4 :: a3 :: a2 :: a1 :: st) 63 ce sl (hp M) :=
  em_callS [a1, a2, a3, a4] st hcon hm hd kk hR hcs rfl rfl hcat
theorem em_V5 {idx ci b : Nat} {z : MethodName} {cz : ByteArray} {nz : Nat} {rz : Option FieldType} {fr lo : Nat} {ts : List FT} {Qz : QM} {a1 a2 a3 a4 a5 : PV} (hcon : Cm l z cz nz rz fr lo [vR b, a1, a2, a3, a4, a5] M Qz) (hm : MV y.cls idx ci z cz nz rz 5) (hd : decode cc pc = .ok (.invokevirtual idx, 3)) (hl : lay b = .inr (.inr (ci, ts))) (kk : ∀ r M', Qz r M' → Ev l y cc nL rt R E Z n0 (pc + 3) ls (r.toList ++ st) 63 ce sl (hp M')) (hR : fr + 1 ≤ R.frames ∧ 8 + (nz + 11) + lo ≤ R.locals := by decide) (hcs : ce ≤ R.cells ∧ sl ≤ R.slots := by decide) (hb : b < 63 := by omega) (hcat : (st.map pcat).sum ≤ 8 := by simp [pcat]) : Ev l y cc nL rt R E Z n0 pc ls (a5 :: a4 :: a3 :: a2 :: a1 :: vR b :: st) 63 ce sl (hp M) :=
  em_callV [a1, a2, a3, a4, a5] st hcon hm hd hl kk hR hcs hb rfl rfl hcat
theorem em_S5 {idx : Nat} {z : MethodName} {cz : ByteArray} {nz : Nat} {rz : Option FieldType} {fr lo : Nat} {Qz : QM} {a1 a2 a3 a4 a5 : PV} (hcon : Cm l z cz nz rz fr lo [a1, a2, a3, a4, a5] M Qz) (hm : MS y.cls idx z cz nz rz 5) (hd : decode cc pc = .ok (.invokestatic idx, 3)) (kk : ∀ r M', Qz r M' → Ev l y cc nL rt R E Z n0 (pc + 3) ls (r.toList ++ st) 63 ce sl (hp M')) (hR : fr + 1 ≤ R.frames ∧ 8 + (nz + 11) + lo ≤ R.locals := by decide) (hcs : ce ≤ R.cells ∧ sl ≤ R.slots := by decide) (hcat : (st.map pcat).sum ≤ 8 := by simp [pcat]) : Ev l y cc nL rt R E Z n0 pc ls (a5 :: a4 :: a3 :: a2 :: a1 :: st) 63 ce sl (hp M) :=
  em_callS [a1, a2, a3, a4, a5] st hcon hm hd kk hR hcs rfl rfl hcat
theorem em_V6 {idx ci b : Nat} {z : MethodName} {cz : ByteArray} {nz : Nat} {rz : Option FieldType} {fr lo : Nat} {ts : List FT} {Qz : QM} {a1 a2 a3 a4 a5 a6 : PV} (hcon : Cm l z cz nz rz fr lo [vR b, a1, a2, a3, a4, a5, a6] M Qz) (hm : MV y.cls idx ci z cz nz rz 6) (hd : decode cc pc = .ok (.invokevirtual idx, 3)) (hl : lay b = .inr (.inr (ci, ts))) (kk : ∀ r M', Qz r M' → Ev l y cc nL rt R E Z n0 (pc + 3) ls (r.toList ++ st) 63 ce sl (hp M')) (hR : fr + 1 ≤ R.frames ∧ 8 + (nz + 11) + lo ≤ R.locals := by decide) (hcs : ce ≤ R.cells ∧ sl ≤ R.slots := by decide) (hb : b < 63 := by omega) (hcat : (st.map pcat).sum ≤ 8 := by simp [pcat]) : Ev l y cc nL rt R E Z n0 pc ls (a6 :: a5 :: a4 :: a3 :: a2 :: a1 :: vR b :: st) 63 ce sl (hp M) :=
  em_callV [a1, a2, a3, a4, a5, a6] st hcon hm hd hl kk hR hcs hb rfl rfl hcat
theorem em_S6 {idx : Nat} {z : MethodName} {cz : ByteArray} {nz : Nat} {rz : Option FieldType} {fr lo : Nat} {Qz : QM} {a1 a2 a3 a4 a5 a6 : PV} (hcon : Cm l z cz nz rz fr lo [a1, a2, a3, a4, a5, a6] M Qz) (hm : MS y.cls idx z cz nz rz 6) (hd : decode cc pc = .ok (.invokestatic idx, 3)) (kk : ∀ r M', Qz r M' → Ev l y cc nL rt R E Z n0 (pc + 3) ls (r.toList ++ st) 63 ce sl (hp M')) (hR : fr + 1 ≤ R.frames ∧ 8 + (nz + 11) + lo ≤ R.locals := by decide) (hcs : ce ≤ R.cells ∧ sl ≤ R.slots := by decide) (hcat : (st.map pcat).sum ≤ 8 := by simp [pcat]) : Ev l y cc nL rt R E Z n0 pc ls (a6 :: a5 :: a4 :: a3 :: a2 :: a1 :: st) 63 ce sl (hp M) :=
  em_callS [a1, a2, a3, a4, a5, a6] st hcon hm hd kk hR hcs rfl rfl hcat
end EK
end
section
set_option maxRecDepth 100000 in
set_option maxHeartbeats 4000000 in
theorem c_isWithin (l : Launch) (M : Mem) {a b c : Int} (ha : i32 a) (hb : i32 b) (hc : i32 c) : Cm l yX5_isWithin cX5_isWithin 3 (some .boolean) 0 0 [vI a, vI b, vI c] M (rB (b ≤ a ∧ a ≤ c) M) := by
  refine cmo [some (vI a), some (vI b), some (vI c)] ?_
  refine ev_iload_n dX5_isWithin_0 rfl ?_
  refine ev_iload_n dX5_isWithin_1 rfl ?_
  refine ev_icmp_lt 14 dX5_isWithin_2 (by omega) (by omega) (fun c2 => ?_) (fun c2 => ?_)
  · refine ev_iconst dX5_isWithin_14 ?_
    exact em_zret dX5_isWithin_15 (by omega) ⟨rfl, _, rfl, by omega⟩
  · refine ev_iload_n dX5_isWithin_5 rfl ?_
    refine ev_iload_n dX5_isWithin_6 rfl ?_
    refine ev_icmp_gt 14 dX5_isWithin_7 (by omega) (by omega) (fun c7 => ?_) (fun c7 => ?_)
    · refine ev_iconst dX5_isWithin_14 ?_
      exact em_zret dX5_isWithin_15 (by omega) ⟨rfl, _, rfl, by omega⟩
    · refine ev_iconst dX5_isWithin_10 ?_
      refine ev_goto 15 dX5_isWithin_11 ?_
      exact em_zret dX5_isWithin_15 (by omega) ⟨rfl, _, rfl, by omega⟩
set_option maxRecDepth 100000 in
set_option maxHeartbeats 4000000 in
theorem c_isOnMap (l : Launch) (M : Mem) {a : Int} (ha : i32 a) : Cm l yX5_isOnMap cX5_isOnMap 1 (some .boolean) 1 22 [vI a] M (rB (-100 ≤ a ∧ a ≤ 100) M) := by
  refine cmo [some (vI a)] ?_
  refine ev_iload_n dX5_isOnMap_0 rfl ?_
  refine ev_bipush dX5_isOnMap_1 (by decide) ?_
  refine ev_bipush dX5_isOnMap_3 (by decide) ?_
  refine em_S3 (c_isWithin l _ (by omega) (by omega) (by omega)) mX5_57 dX5_isOnMap_5 ?_
  rintro r M ⟨rfl, z5, rfl, h5⟩
  exact em_zret dX5_isOnMap_8 (by omega) ⟨rfl, _, rfl, by omega⟩
set_option maxRecDepth 100000 in
set_option maxHeartbeats 4000000 in
theorem c_isPart (l : Launch) (M : Mem) {a : Int} (ha : i32 a) : Cm l yX5_isPart cX5_isPart 1 (some .boolean) 0 0 [vI a] M (rB (a = 0 ∨ a = 1) M) := by
  refine cmo [some (vI a)] ?_
  refine ev_iload_n dX5_isPart_0 rfl ?_
  refine ev_if_eq 9 dX5_isPart_1 (by omega) (fun c1 => ?_) (fun c1 => ?_)
  · refine ev_iconst dX5_isPart_9 ?_
    refine ev_goto 14 dX5_isPart_10 ?_
    exact em_zret dX5_isPart_14 (by omega) ⟨rfl, _, rfl, by omega⟩
  · refine ev_iload_n dX5_isPart_4 rfl ?_
    refine ev_iconst dX5_isPart_5 ?_
    refine ev_icmp_ne 13 dX5_isPart_6 (by omega) (by omega) (fun c6 => ?_) (fun c6 => ?_)
    · refine ev_iconst dX5_isPart_13 ?_
      exact em_zret dX5_isPart_14 (by omega) ⟨rfl, _, rfl, by omega⟩
    · refine ev_iconst dX5_isPart_9 ?_
      refine ev_goto 14 dX5_isPart_10 ?_
      exact em_zret dX5_isPart_14 (by omega) ⟨rfl, _, rfl, by omega⟩
set_option maxRecDepth 100000 in
set_option maxHeartbeats 4000000 in
theorem c_isTrack (l : Launch) {M : Mem} {a : Int} (ha : i32 a) (hT : i32 (M 0 5)) : Cm l yX5_isTrack cX5_isTrack 2 (some .boolean) 0 0 [vR 0, vI a] M (rB (0 ≤ a ∧ a < M 0 5) M) := by
  refine cmo [some (vR 0), some (vI a)] ?_
  refine ev_iload_n dX5_isTrack_0 rfl ?_
  refine ev_if_lt 16 dX5_isTrack_1 (by omega) (fun c1 => ?_) (fun c1 => ?_)
  · refine ev_iconst dX5_isTrack_16 ?_
    exact em_zret dX5_isTrack_17 (by omega) ⟨rfl, _, rfl, by omega⟩
  · refine ev_iload_n dX5_isTrack_4 rfl ?_
    refine ev_aload_n dX5_isTrack_5 rfl ?_
    refine em_getI fX5_44.g dX5_isTrack_6 lay_0 rfl ?_
    refine ev_icmp_ge 16 dX5_isTrack_9 (by omega) (by omega) (fun c9 => ?_) (fun c9 => ?_)
    · refine ev_iconst dX5_isTrack_16 ?_
      exact em_zret dX5_isTrack_17 (by omega) ⟨rfl, _, rfl, by omega⟩
    · refine ev_iconst dX5_isTrack_12 ?_
      refine ev_goto 17 dX5_isTrack_13 ?_
      exact em_zret dX5_isTrack_17 (by omega) ⟨rfl, _, rfl, by omega⟩
set_option maxRecDepth 100000 in
set_option maxHeartbeats 4000000 in
theorem c_areTwoTracks (l : Launch) {M : Mem} {a b : Int} (ha : i32 a) (hb : i32 b) (hT : i32 (M 0 5)) : Cm l yX5_areTwoTracks cX5_areTwoTracks 3 (some .boolean) 1 21 [vR 0, vI a, vI b] M (rB ((0 ≤ a ∧ a < M 0 5) ∧ (0 ≤ b ∧ b < M 0 5) ∧ a ≠ b) M) := by
  refine cmo [some (vR 0), some (vI a), some (vI b)] ?_
  refine ev_aload_n dX5_areTwoTracks_0 rfl ?_
  refine ev_iload_n dX5_areTwoTracks_1 rfl ?_
  refine em_V1 (c_isTrack l (by omega) (by omega)) mX5_69 dX5_areTwoTracks_2 lay_0 ?_
  rintro r M ⟨rfl, z2, rfl, h2⟩
  refine ev_if_eq 25 dX5_areTwoTracks_5 (by omega) (fun c5 => ?_) (fun c5 => ?_)
  · refine ev_iconst dX5_areTwoTracks_25 ?_
    exact em_zret dX5_areTwoTracks_26 (by omega) ⟨rfl, _, rfl, by omega⟩
  · refine ev_aload_n dX5_areTwoTracks_8 rfl ?_
    refine ev_iload_n dX5_areTwoTracks_9 rfl ?_
    refine em_V1 (c_isTrack l (by omega) (by omega)) mX5_69 dX5_areTwoTracks_10 lay_0 ?_
    rintro r M ⟨rfl, z10, rfl, h10⟩
    refine ev_if_eq 25 dX5_areTwoTracks_13 (by omega) (fun c13 => ?_) (fun c13 => ?_)
    · refine ev_iconst dX5_areTwoTracks_25 ?_
      exact em_zret dX5_areTwoTracks_26 (by omega) ⟨rfl, _, rfl, by omega⟩
    · refine ev_iload_n dX5_areTwoTracks_16 rfl ?_
      refine ev_iload_n dX5_areTwoTracks_17 rfl ?_
      refine ev_icmp_eq 25 dX5_areTwoTracks_18 (by omega) (by omega) (fun c18 => ?_) (fun c18 => ?_)
      · refine ev_iconst dX5_areTwoTracks_25 ?_
        exact em_zret dX5_areTwoTracks_26 (by omega) ⟨rfl, _, rfl, by omega⟩
      · refine ev_iconst dX5_areTwoTracks_21 ?_
        refine ev_goto 26 dX5_areTwoTracks_22 ?_
        exact em_zret dX5_areTwoTracks_26 (by omega) ⟨rfl, _, rfl, by omega⟩
set_option maxRecDepth 100000 in
set_option maxHeartbeats 4000000 in
theorem c_has (l : Launch) {M : Mem} {a : Int} (ha : i32 a) (hT : i32 (M 50 1)) : Cm l yX3_has cX3_has 2 (some .boolean) 0 0 [vR 50, vI a] M (rB (0 ≤ a ∧ a < M 50 1) M) := by
  refine cmo [some (vR 50), some (vI a)] ?_
  refine ev_iload_n dX3_has_0 rfl ?_
  refine ev_if_lt 16 dX3_has_1 (by omega) (fun c1 => ?_) (fun c1 => ?_)
  · refine ev_iconst dX3_has_16 ?_
    exact em_zret dX3_has_17 (by omega) ⟨rfl, _, rfl, by omega⟩
  · refine ev_iload_n dX3_has_4 rfl ?_
    refine ev_aload_n dX3_has_5 rfl ?_
    refine em_getI fX3_15.g dX3_has_6 lay_50 rfl ?_
    refine ev_icmp_ge 16 dX3_has_9 (by omega) (by omega) (fun c9 => ?_) (fun c9 => ?_)
    · refine ev_iconst dX3_has_16 ?_
      exact em_zret dX3_has_17 (by omega) ⟨rfl, _, rfl, by omega⟩
    · refine ev_iconst dX3_has_12 ?_
      refine ev_goto 17 dX3_has_13 ?_
      exact em_zret dX3_has_17 (by omega) ⟨rfl, _, rfl, by omega⟩
set_option maxRecDepth 100000 in
set_option maxHeartbeats 4000000 in
theorem c_mmin (l : Launch) (M : Mem) {a b : Int} (ha : i32 a) (hb : i32 b) : Cm l yJ9_min_7cf53 cJ9_min_7cf53 2 (some .int) 0 0 [vI a, vI b] M (rI (min a b) M) := by
  refine cmoF [some (vI a), some (vI b)] ?_
  refine ev_iload_n dJ9_min_7cf53_0 rfl ?_
  refine ev_iload_n dJ9_min_7cf53_1 rfl ?_
  refine ev_icmp_gt 9 dJ9_min_7cf53_2 (by omega) (by omega) (fun c2 => ?_) (fun c2 => ?_)
  · refine ev_iload_n dJ9_min_7cf53_9 rfl ?_
    exact em_iret dJ9_min_7cf53_10 ⟨rfl, by congr 2; omega⟩
  · refine ev_iload_n dJ9_min_7cf53_5 rfl ?_
    refine ev_goto 10 dJ9_min_7cf53_6 ?_
    exact em_iret dJ9_min_7cf53_10 ⟨rfl, by congr 2; omega⟩
set_option maxRecDepth 100000 in
set_option maxHeartbeats 4000000 in
theorem c_mmax (l : Launch) (M : Mem) {a b : Int} (ha : i32 a) (hb : i32 b) : Cm l yJ9_max_7cf53 cJ9_max_7cf53 2 (some .int) 0 0 [vI a, vI b] M (rI (max a b) M) := by
  refine cmoF [some (vI a), some (vI b)] ?_
  refine ev_iload_n dJ9_max_7cf53_0 rfl ?_
  refine ev_iload_n dJ9_max_7cf53_1 rfl ?_
  refine ev_icmp_lt 9 dJ9_max_7cf53_2 (by omega) (by omega) (fun c2 => ?_) (fun c2 => ?_)
  · refine ev_iload_n dJ9_max_7cf53_9 rfl ?_
    exact em_iret dJ9_max_7cf53_10 ⟨rfl, by congr 2; omega⟩
  · refine ev_iload_n dJ9_max_7cf53_5 rfl ?_
    refine ev_goto 10 dJ9_max_7cf53_6 ?_
    exact em_iret dJ9_max_7cf53_10 ⟨rfl, by congr 2; omega⟩
set_option maxRecDepth 100000 in
set_option maxHeartbeats 4000000 in
theorem c_mabs (l : Launch) (M : Mem) {a : Int} (ha : i64 a) : Cm l yJ9_abs_067f4 cJ9_abs_067f4 2 (some .long) 0 0 [vL a] M (rL (if a < 0 then -a else a) M) := by
  refine cmoF [some (vL a), none] ?_
  refine ev_lload_n dJ9_abs_067f4_0 rfl ?_
  refine ev_lconst0 dJ9_abs_067f4_1 ?_
  refine ev_lcmp_ge 11 dJ9_abs_067f4_2 dJ9_abs_067f4_3 (by omega) (by omega) (fun c2 => ?_) (fun c2 => ?_)
  · refine ev_lload_n dJ9_abs_067f4_11 rfl ?_
    exact em_lret dJ9_abs_067f4_12 ⟨rfl, by congr 3; split <;> omega⟩
  · refine ev_lload_n dJ9_abs_067f4_6 rfl ?_
    refine ev_lneg dJ9_abs_067f4_7 ?_
    refine ev_goto 12 dJ9_abs_067f4_8 ?_
    exact em_lret dJ9_abs_067f4_12 ⟨rfl, by congr 3; split <;> omega⟩
theorem xs32 (x y : Int32) : (0 ≤ x ^^^ y) ↔ ((x.toInt < 0) ↔ (y.toInt < 0)) := by
  have h1 := BitVec.msb_xor (x := x.toBitVec) (y := y.toBitVec)
  rw [BitVec.msb_eq_toInt, BitVec.msb_eq_toInt, BitVec.msb_eq_toInt] at h1
  have e1 : (x ^^^ y).toInt = (x.toBitVec ^^^ y.toBitVec).toInt := rfl
  have e2 : x.toInt = x.toBitVec.toInt := rfl
  have e3 : y.toInt = y.toBitVec.toInt := rfl
  rw [Int32.le_iff_toInt_le, e1, e2, e3, pm_z32]
  generalize (x.toBitVec ^^^ y.toBitVec).toInt = u at h1 ⊢
  by_cases hu : u < 0 <;> by_cases a : x.toBitVec.toInt < 0 <;> by_cases b : y.toBitVec.toInt < 0 <;> first | omega | (simp only [hu, a, b, decide_true, decide_false] at h1; exact absurd h1 (by decide))
theorem xs64 (x y : Int64) : (0 ≤ x ^^^ y) ↔ ((x.toInt < 0) ↔ (y.toInt < 0)) := by
  have h1 := BitVec.msb_xor (x := x.toBitVec) (y := y.toBitVec)
  rw [BitVec.msb_eq_toInt, BitVec.msb_eq_toInt, BitVec.msb_eq_toInt] at h1
  have e1 : (x ^^^ y).toInt = (x.toBitVec ^^^ y.toBitVec).toInt := rfl
  have e2 : x.toInt = x.toBitVec.toInt := rfl
  have e3 : y.toInt = y.toBitVec.toInt := rfl
  have e0 : (0 : Int64).toInt = 0 := by decide
  rw [Int64.le_iff_toInt_le, e1, e2, e3, e0]
  generalize (x.toBitVec ^^^ y.toBitVec).toInt = u at h1 ⊢
  by_cases hu : u < 0 <;> by_cases a : x.toBitVec.toInt < 0 <;> by_cases b : y.toBitVec.toInt < 0 <;> first | omega | (simp only [hu, a, b, decide_true, decide_false] at h1; exact absurd h1 (by decide))
section XR
variable {l : Launch} {y : MethodName} {cc : ByteArray} {nL : Nat} {rt : Option FieldType} {R : Room} {E : EE} {Z : ZZ} {n0 pc : Nat} {ls : List (Option PV)} {st : List PV} {n ce sl : Nat} {h : HP}
theorem ev_ixor_ge {off : Int} (tgt : Nat) {a b : Int} (hd0 : decode cc pc = .ok (.ixor, 1)) (hd : decode cc (pc + 1) = .ok (.ifCond .ge off, 3)) (ha : i32 a) (hb : i32 b) (kt : (a < 0 ↔ b < 0) → Ev l y cc nL rt R E Z n0 tgt ls st n ce sl h) (kf : ¬ (a < 0 ↔ b < 0) → Ev l y cc nL rt R E Z n0 (pc + 1 + 3) ls st n ce sl h) (ht : ((pc + 1 : Nat) : Int) + off = (tgt : Int) := by decide) : Ev l y cc nL rt R E Z n0 pc ls (vI b :: vI a :: st) n ce sl h :=
  ev_BRN (P := (a < 0 ↔ b < 0)) (fun ad C hl kt kf => lv_ixor C.1 C.2.1 hd0 (lv_if_ge C.1 C.2.1 hd ht (fun q => kt (by rw [xs32, pm_r32 ha, pm_r32 hb] at q; exact q)) (fun q => kf (fun z => q (by rw [xs32, pm_r32 ha, pm_r32 hb]; exact z))))) kt kf
theorem ev_lxor_ge {off : Int} (tgt : Nat) {a b : Int} (hd0 : decode cc pc = .ok (.lxor, 1)) (hd1 : decode cc (pc + 1) = .ok (.lconst 0, 1)) (hd2 : decode cc (pc + 1 + 1) = .ok (.lcmp, 1)) (hd : decode cc (pc + 1 + 1 + 1) = .ok (.ifCond .ge off, 3)) (ha : i64 a) (hb : i64 b) (kt : (a < 0 ↔ b < 0) → Ev l y cc nL rt R E Z n0 tgt ls st n ce sl h) (kf : ¬ (a < 0 ↔ b < 0) → Ev l y cc nL rt R E Z n0 (pc + 1 + 1 + 1 + 3) ls st n ce sl h) (ht : ((pc + 1 + 1 + 1 : Nat) : Int) + off = (tgt : Int) := by decide) : Ev l y cc nL rt R E Z n0 pc ls (vL b :: vL a :: st) n ce sl h :=
  ev_BRN (P := (a < 0 ↔ b < 0)) (fun ad C hl kt kf => lv_lxor C.1 C.2.1 hd0 (lv_lconst C.1 C.2.1 hd1 (v := 0) (by decide) (W.lcmp C.1 C.2.1 hd2 (lv_if_ge C.1 C.2.1 hd ht (fun q => kt (by rw [lg_cmp_ge, xs64, pm_r64 ha, pm_r64 hb] at q; exact q)) (fun q => kf (fun z => q (by rw [lg_cmp_ge, xs64, pm_r64 ha, pm_r64 hb]; exact z))))))) kt kf
end XR
theorem fd_pos {a b : Int} (hb : 0 < b) : a / b = if (a < 0 ∧ a.tdiv b * b ≠ a) then a.tdiv b - 1 else a.tdiv b := by
  have e := Int.tmod_add_tdiv_mul a b
  by_cases ha : a < 0
  · have h1 : a.tmod b ≤ 0 := by
      have := Int.tmod_nonneg (a := -a) b (by omega)
      rw [Int.neg_tmod] at this
      omega
    have h2 : -b < a.tmod b := Int.lt_tmod_of_pos a hb
    by_cases h0 : a.tmod b = 0
    · rw [if_neg (by omega)]
      exact ((Int.ediv_emod_unique (r := 0) (q := a.tdiv b) hb).mpr ⟨by rw [Int.mul_comm]; omega, by omega, by omega⟩).1
    · rw [if_pos ⟨ha, by omega⟩]
      exact ((Int.ediv_emod_unique (r := a.tmod b + b) (q := a.tdiv b - 1) hb).mpr ⟨by rw [Int.mul_sub, Int.mul_comm b]; omega, by omega, by omega⟩).1
  · rw [if_neg (by omega), Int.tdiv_eq_ediv_of_nonneg (by omega)]
theorem tdiv_le {a b : Int} (hb : 0 < b) : -(if a < 0 then -a else a) ≤ a.tdiv b ∧ a.tdiv b ≤ (if a < 0 then -a else a) := by
  have e := Int.natAbs_tdiv_le_natAbs a b
  split <;> omega
set_option maxRecDepth 100000 in
set_option maxHeartbeats 4000000 in
theorem c_fdL (l : Launch) (M : Mem) {a b : Int} (ha : -9223372036854775808 < a ∧ a < 9223372036854775808) (hb : 0 < b) (hb2 : b < 9223372036854775808) : Cm l yJ9_floorDiv_f86c9 cJ9_floorDiv_f86c9 6 (some .long) 0 0 [vL a, vL b] M (rL (a / b) M) := by
  have hf := fd_pos (a := a) hb
  have ht := tdiv_le (a := a) hb
  have he := Int.tmod_add_tdiv_mul a b
  have hm := tmod_bounds (a := a) hb
  have hs : (0 ≤ a → 0 ≤ a.tmod b) ∧ (a < 0 → a.tmod b ≤ 0) := ⟨fun h => Int.tmod_nonneg b h, fun h => by have := Int.tmod_nonneg (a := -a) b (by omega); rw [Int.neg_tmod] at this; omega⟩
  have hq : i64 (a.tdiv b) := by split at ht <;> omega
  rw [hf]
  refine cmoF [some (vL a), none, some (vL b), none, none, none] ?_
  refine ev_lload_n dJ9_floorDiv_f86c9_0 rfl ?_
  refine ev_lload_n dJ9_floorDiv_f86c9_1 rfl ?_
  refine ev_ldiv dJ9_floorDiv_f86c9_2 (by omega) (by omega) (by omega) ?_
  refine ev_lstore dJ9_floorDiv_f86c9_3 (by decide) ?_
  refine ev_ls [some (vL _), none, some (vL _), none, some (vL _), none] rfl ?_
  refine ev_lload_n dJ9_floorDiv_f86c9_5 rfl ?_
  refine ev_lload_n dJ9_floorDiv_f86c9_6 rfl ?_
  refine ev_lxor_ge 27 dJ9_floorDiv_f86c9_7 dJ9_floorDiv_f86c9_8 dJ9_floorDiv_f86c9_9 dJ9_floorDiv_f86c9_10 (by omega) (by omega) (fun c1 => ?_) (fun c1 => ?_)
  · refine ev_lload dJ9_floorDiv_f86c9_27 rfl ?_
    exact em_lret dJ9_floorDiv_f86c9_29 ⟨rfl, by rw [if_neg (by omega)]⟩
  · refine ev_lload dJ9_floorDiv_f86c9_13 rfl ?_
    refine ev_lload_n dJ9_floorDiv_f86c9_15 rfl ?_
    refine ev_lmul dJ9_floorDiv_f86c9_16 ?_
    refine ev_lload_n dJ9_floorDiv_f86c9_17 rfl ?_
    refine ev_lcmp_eq 27 dJ9_floorDiv_f86c9_18 dJ9_floorDiv_f86c9_19 (by omega) (by omega) (fun c2 => ?_) (fun c2 => ?_)
    · refine ev_lload dJ9_floorDiv_f86c9_27 rfl ?_
      exact em_lret dJ9_floorDiv_f86c9_29 ⟨rfl, by rw [if_neg (by omega)]⟩
    · refine ev_lload dJ9_floorDiv_f86c9_22 rfl ?_
      refine ev_lconst1 dJ9_floorDiv_f86c9_24 ?_
      refine ev_lsub dJ9_floorDiv_f86c9_25 ?_
      exact em_lret dJ9_floorDiv_f86c9_26 ⟨rfl, by rw [if_pos (by omega)]⟩
set_option maxRecDepth 100000 in
set_option maxHeartbeats 4000000 in
theorem c_fdI (l : Launch) (M : Mem) {a b : Int} (ha : -2147483648 < a ∧ a < 2147483648) (hb : 0 < b) (hb2 : b < 2147483648) : Cm l yJ9_floorDiv_7cf53 cJ9_floorDiv_7cf53 3 (some .int) 0 0 [vI a, vI b] M (rI (a / b) M) := by
  have hf := fd_pos (a := a) hb
  have ht := tdiv_le (a := a) hb
  have he := Int.tmod_add_tdiv_mul a b
  have hm := tmod_bounds (a := a) hb
  have hs : (0 ≤ a → 0 ≤ a.tmod b) ∧ (a < 0 → a.tmod b ≤ 0) := ⟨fun h => Int.tmod_nonneg b h, fun h => by have := Int.tmod_nonneg (a := -a) b (by omega); rw [Int.neg_tmod] at this; omega⟩
  have hq : i64 (a.tdiv b) := by split at ht <;> omega
  rw [hf]
  refine cmoF [some (vI a), some (vI b), none] ?_
  refine ev_iload_n dJ9_floorDiv_7cf53_0 rfl ?_
  refine ev_iload_n dJ9_floorDiv_7cf53_1 rfl ?_
  refine ev_idiv dJ9_floorDiv_7cf53_2 (by omega) (by omega) (by omega) ?_
  refine ev_istore_n dJ9_floorDiv_7cf53_3 (by decide) ?_
  refine ev_ls [some (vI _), some (vI _), some (vI _)] rfl ?_
  refine ev_iload_n dJ9_floorDiv_7cf53_4 rfl ?_
  refine ev_iload_n dJ9_floorDiv_7cf53_5 rfl ?_
  refine ev_ixor_ge 21 dJ9_floorDiv_7cf53_6 dJ9_floorDiv_7cf53_7 (by omega) (by omega) (fun c1 => ?_) (fun c1 => ?_)
  · refine ev_iload_n dJ9_floorDiv_7cf53_21 rfl ?_
    exact em_iret dJ9_floorDiv_7cf53_22 ⟨rfl, by rw [if_neg (by omega)]⟩
  · refine ev_iload_n dJ9_floorDiv_7cf53_10 rfl ?_
    refine ev_iload_n dJ9_floorDiv_7cf53_11 rfl ?_
    refine ev_imul dJ9_floorDiv_7cf53_12 ?_
    refine ev_iload_n dJ9_floorDiv_7cf53_13 rfl ?_
    refine ev_icmp_eq 21 dJ9_floorDiv_7cf53_14 (by omega) (by omega) (fun c2 => ?_) (fun c2 => ?_)
    · refine ev_iload_n dJ9_floorDiv_7cf53_21 rfl ?_
      exact em_iret dJ9_floorDiv_7cf53_22 ⟨rfl, by rw [if_neg (by omega)]⟩
    · refine ev_iload_n dJ9_floorDiv_7cf53_17 rfl ?_
      refine ev_iconst dJ9_floorDiv_7cf53_18 ?_
      refine ev_isub dJ9_floorDiv_7cf53_19 ?_
      exact em_iret dJ9_floorDiv_7cf53_20 ⟨rfl, by rw [if_pos (by omega)]⟩
end
section
def msk : List (Option PV) → List Bool → List (Option PV)
  | [], _ => []
  | a :: r, [] => a :: r
  | a :: r, true :: m => a :: msk r m
  | _ :: r, false :: m => none :: msk r m
theorem lk_msk : ∀ {ls : List (Option PV)} {m : List Bool} {i : Nat} {v : PV}, lk (msk ls m) i = some v → lk ls i = some v
  | [], _, i, v, h => h
  | a :: r, [], i, v, h => h
  | a :: r, true :: m, 0, v, h => h
  | a :: r, true :: m, i + 1, v, h => lk_msk (ls := r) (m := m) h
  | a :: r, false :: m, 0, v, h => by simp [msk, lk] at h
  | a :: r, false :: m, i + 1, v, h => lk_msk (ls := r) (m := m) h
theorem ev_mask {l : Launch} {y : MethodName} {cc : ByteArray} {nL : Nat} {rt : Option FieldType} {R : Room} {E : EE} {Z : ZZ} {n0 pc : Nat} {ls : List (Option PV)} {st : List PV} {n ce sl : Nat} {h : HP} (m : List Bool) (k : Ev l y cc nL rt R E Z n0 pc (msk ls m) st n ce sl h) : Ev l y cc nL rt R E Z n0 pc ls st n ce sl h := by
  intro p e s m' args below meth c C D dA ad0 ad A H locs lsA a0 a1 a2 a3 hK hP hD hS hA hl
  exact k p e s m' args below meth c C D dA ad0 ad A H locs lsA a0 a1 a2 a3 hK hP hD hS hA ⟨hl.1, hl.2.1, fun i v hv => hl.2.2 i v (lk_msk hv)⟩
def gsJ (p lg sm : Nat) : Prop := sm = 0 ∨ ∃ p', p = p' + 1 ∧ sm * (lg % sm) < 2 ^ p'
theorem gsJ_step {p lg sm : Nat} (h : gsJ (p + 1) lg sm) (h0 : sm ≠ 0) : gsJ p sm (lg % sm) := by
  rcases h with h | ⟨p', e, h⟩
  · exact absurd h h0
  · have ep : p = p' := by omega
    subst ep
    by_cases hr : lg % sm = 0
    · exact Or.inl hr
    · refine Or.inr ?_
      have hlt : lg % sm < sm := Nat.mod_lt _ (by omega)
      generalize lg % sm = r at *
      have h1 : sm % r < r := Nat.mod_lt _ (by omega)
      have h2 := Nat.div_add_mod sm r
      have h3 : 1 ≤ sm / r := (Nat.le_div_iff_mul_le (by omega)).mpr (by omega)
      have h4 : r * 1 ≤ r * (sm / r) := Nat.mul_le_mul_left r h3
      have h5 : 2 * (sm % r) ≤ sm := by omega
      have h6 : r * (2 * (sm % r)) ≤ r * sm := Nat.mul_le_mul_left r h5
      have h7 : r * (2 * (sm % r)) = 2 * (r * (sm % r)) := by rw [← Nat.mul_assoc, Nat.mul_comm r 2, Nat.mul_assoc]
      have h8 : 1 ≤ sm * r := Nat.mul_pos (by omega) (by omega)
      rw [Nat.mul_comm sm r] at h h8
      cases p with
      | zero => simp at h; omega
      | succ q => exact ⟨q, rfl, by rw [Nat.pow_succ] at h; omega⟩
set_option maxRecDepth 100000 in
set_option maxHeartbeats 4000000 in
theorem c_gshared (l : Launch) (M : Mem) {a b : Int} (ha : -9223372036854775808 < a ∧ a < 9223372036854775808) (hb : -2147483648 < b ∧ b < 2147483648) : Cm l yX2_greatestShared cX2_greatestShared 11 (some .long) 0 0 [vL a, vL b] M (rL (Int.gcd a b : Int) M) := by
  refine cmo [some (vL a), none, some (vL b), none, none, none, none, none, none, none, none] ?_
  have loop : ∀ (p lg sm k : Nat), Nat.gcd lg sm = Int.gcd a b → lg < 9223372036854775808 → sm < 9223372036854775808 → gsJ p lg sm → k + p ≤ 99 → Em l yX2_greatestShared cX2_greatestShared 11 (some .long) 0 0 (rL (Int.gcd a b : Int) M) 31 [some (vL a), none, some (vL b), none, some (vL (lg : Int)), none, some (vL (sm : Int)), none, some (vI (k : Int)), none, none] [] M := by
    intro p
    induction p with
    | zero =>
      intro lg sm k hg hl hs hj hk
      refine ev_iload dX2_greatestShared_31 rfl ?_
      refine ev_bipush dX2_greatestShared_33 (by decide) ?_
      refine ev_icmp_ge 66 dX2_greatestShared_35 (by omega) (by omega) (fun c1 => ?_) (fun c1 => ?_)
      · omega
      · refine ev_lload dX2_greatestShared_38 rfl ?_
        refine ev_lconst0 dX2_greatestShared_40 ?_
        refine ev_lcmp_eq 66 dX2_greatestShared_41 dX2_greatestShared_42 (by omega) (by omega) (fun c2 => ?_) (fun c2 => ?_)
        · refine ev_lload dX2_greatestShared_66 rfl ?_
          have e0 : sm = 0 := by omega
          subst e0
          rw [Nat.gcd_zero_right] at hg
          exact em_lret dX2_greatestShared_68 ⟨rfl, by rw [hg]⟩
        · rcases hj with h | ⟨p', e, h⟩ <;> omega
    | succ p ih =>
      intro lg sm k hg hl hs hj hk
      refine ev_iload dX2_greatestShared_31 rfl ?_
      refine ev_bipush dX2_greatestShared_33 (by decide) ?_
      refine ev_icmp_ge 66 dX2_greatestShared_35 (by omega) (by omega) (fun c1 => ?_) (fun c1 => ?_)
      · omega
      · refine ev_lload dX2_greatestShared_38 rfl ?_
        refine ev_lconst0 dX2_greatestShared_40 ?_
        refine ev_lcmp_eq 66 dX2_greatestShared_41 dX2_greatestShared_42 (by omega) (by omega) (fun c2 => ?_) (fun c2 => ?_)
        · refine ev_lload dX2_greatestShared_66 rfl ?_
          have e0 : sm = 0 := by omega
          subst e0
          rw [Nat.gcd_zero_right] at hg
          exact em_lret dX2_greatestShared_68 ⟨rfl, by rw [hg]⟩
        · have hmod : (lg : Int).tmod (sm : Int) = ((lg % sm : Nat) : Int) := (Int.ofNat_tmod lg sm).symm
          have hlt : lg % sm < sm := Nat.mod_lt _ (by omega)
          refine ev_lload dX2_greatestShared_45 rfl ?_
          refine ev_lload dX2_greatestShared_47 rfl ?_
          refine ev_lrem dX2_greatestShared_49 (by omega) (by omega) (by omega) ?_
          rw [hmod]
          refine ev_lstore dX2_greatestShared_50 (by decide) ?_
          refine ev_ls [some (vL _), none, some (vL _), none, some (vL _), none, some (vL _), none, some (vI _), some (vL _), none] rfl ?_
          refine ev_lload dX2_greatestShared_52 rfl ?_
          refine ev_lstore dX2_greatestShared_54 (by decide) ?_
          refine ev_ls [some (vL _), none, some (vL _), none, some (vL _), none, some (vL _), none, some (vI _), some (vL _), none] rfl ?_
          refine ev_lload dX2_greatestShared_56 rfl ?_
          refine ev_lstore dX2_greatestShared_58 (by decide) ?_
          refine ev_ls [some (vL _), none, some (vL _), none, some (vL _), none, some (vL _), none, some (vI _), some (vL _), none] rfl ?_
          refine ev_iinc dX2_greatestShared_60 rfl (by decide) ?_
          refine ev_ls [some (vL _), none, some (vL _), none, some (vL _), none, some (vL _), none, some (vI _), some (vL _), none] rfl ?_
          refine ev_goto 31 dX2_greatestShared_63 ?_
          refine ev_mask [true, true, true, true, true, true, true, true, true, false, false] ?_
          exact ih sm (lg % sm) (k + 1) (by rw [← hg, Nat.gcd_comm sm, ← Nat.gcd_rec, Nat.gcd_comm]) (by omega) (by omega) (gsJ_step hj (by omega)) (by omega)
  have hj : gsJ 63 a.natAbs b.natAbs := by
    by_cases h0 : b.natAbs = 0
    · exact Or.inl h0
    · refine Or.inr ⟨62, rfl, ?_⟩
      have h1 : a.natAbs % b.natAbs < b.natAbs := Nat.mod_lt _ (by omega)
      have h2 : b.natAbs * (a.natAbs % b.natAbs) ≤ 2147483648 * 2147483647 := Nat.mul_le_mul (by omega) (by omega)
      exact Nat.lt_of_le_of_lt h2 (by decide)
  refine ev_lload_n dX2_greatestShared_0 rfl ?_
  refine ev_lconst0 dX2_greatestShared_1 ?_
  refine ev_lcmp_ge 11 dX2_greatestShared_2 dX2_greatestShared_3 (by omega) (by omega) (fun c2 => ?_) (fun c2 => ?_)
  · refine ev_lload_n dX2_greatestShared_11 rfl ?_
    refine ev_lstore dX2_greatestShared_12 (by decide) ?_
    refine ev_ls [some (vL _), none, some (vL _), none, some (vL _), none, none, none, none, none, none] rfl ?_
    refine ev_lload_n dX2_greatestShared_14 rfl ?_
    refine ev_lconst0 dX2_greatestShared_15 ?_
    refine ev_lcmp_ge 25 dX2_greatestShared_16 dX2_greatestShared_17 (by omega) (by omega) (fun c16 => ?_) (fun c16 => ?_)
    · refine ev_lload_n dX2_greatestShared_25 rfl ?_
      refine ev_lstore dX2_greatestShared_26 (by decide) ?_
      refine ev_ls [some (vL _), none, some (vL _), none, some (vL _), none, some (vL _), none, none, none, none] rfl ?_
      refine ev_iconst dX2_greatestShared_28 ?_
      refine ev_istore dX2_greatestShared_29 (by decide) ?_
      refine ev_ls [some (vL _), none, some (vL _), none, some (vL _), none, some (vL _), none, some (vI _), none, none] rfl ?_
      refine ev_mask [true, true, true, true, true, true, true, true, true, true, true] ?_
      have hfin := loop 63 a.natAbs b.natAbs 0 rfl (by omega) (by omega) hj (by omega)
      first | (rw [show ((a.natAbs : Nat) : Int) = -a by omega, show ((b.natAbs : Nat) : Int) = -b by omega] at hfin; exact hfin) | (rw [show ((a.natAbs : Nat) : Int) = -a by omega, show ((b.natAbs : Nat) : Int) = b by omega] at hfin; exact hfin) | (rw [show ((a.natAbs : Nat) : Int) = a by omega, show ((b.natAbs : Nat) : Int) = -b by omega] at hfin; exact hfin) | (rw [show ((a.natAbs : Nat) : Int) = a by omega, show ((b.natAbs : Nat) : Int) = b by omega] at hfin; exact hfin)
    · refine ev_lload_n dX2_greatestShared_20 rfl ?_
      refine ev_lneg dX2_greatestShared_21 ?_
      refine ev_goto 26 dX2_greatestShared_22 ?_
      refine ev_lstore dX2_greatestShared_26 (by decide) ?_
      refine ev_ls [some (vL _), none, some (vL _), none, some (vL _), none, some (vL _), none, none, none, none] rfl ?_
      refine ev_iconst dX2_greatestShared_28 ?_
      refine ev_istore dX2_greatestShared_29 (by decide) ?_
      refine ev_ls [some (vL _), none, some (vL _), none, some (vL _), none, some (vL _), none, some (vI _), none, none] rfl ?_
      refine ev_mask [true, true, true, true, true, true, true, true, true, true, true] ?_
      have hfin := loop 63 a.natAbs b.natAbs 0 rfl (by omega) (by omega) hj (by omega)
      first | (rw [show ((a.natAbs : Nat) : Int) = -a by omega, show ((b.natAbs : Nat) : Int) = -b by omega] at hfin; exact hfin) | (rw [show ((a.natAbs : Nat) : Int) = -a by omega, show ((b.natAbs : Nat) : Int) = b by omega] at hfin; exact hfin) | (rw [show ((a.natAbs : Nat) : Int) = a by omega, show ((b.natAbs : Nat) : Int) = -b by omega] at hfin; exact hfin) | (rw [show ((a.natAbs : Nat) : Int) = a by omega, show ((b.natAbs : Nat) : Int) = b by omega] at hfin; exact hfin)
  · refine ev_lload_n dX2_greatestShared_6 rfl ?_
    refine ev_lneg dX2_greatestShared_7 ?_
    refine ev_goto 12 dX2_greatestShared_8 ?_
    refine ev_lstore dX2_greatestShared_12 (by decide) ?_
    refine ev_ls [some (vL _), none, some (vL _), none, some (vL _), none, none, none, none, none, none] rfl ?_
    refine ev_lload_n dX2_greatestShared_14 rfl ?_
    refine ev_lconst0 dX2_greatestShared_15 ?_
    refine ev_lcmp_ge 25 dX2_greatestShared_16 dX2_greatestShared_17 (by omega) (by omega) (fun c16 => ?_) (fun c16 => ?_)
    · refine ev_lload_n dX2_greatestShared_25 rfl ?_
      refine ev_lstore dX2_greatestShared_26 (by decide) ?_
      refine ev_ls [some (vL _), none, some (vL _), none, some (vL _), none, some (vL _), none, none, none, none] rfl ?_
      refine ev_iconst dX2_greatestShared_28 ?_
      refine ev_istore dX2_greatestShared_29 (by decide) ?_
      refine ev_ls [some (vL _), none, some (vL _), none, some (vL _), none, some (vL _), none, some (vI _), none, none] rfl ?_
      refine ev_mask [true, true, true, true, true, true, true, true, true, true, true] ?_
      have hfin := loop 63 a.natAbs b.natAbs 0 rfl (by omega) (by omega) hj (by omega)
      first | (rw [show ((a.natAbs : Nat) : Int) = -a by omega, show ((b.natAbs : Nat) : Int) = -b by omega] at hfin; exact hfin) | (rw [show ((a.natAbs : Nat) : Int) = -a by omega, show ((b.natAbs : Nat) : Int) = b by omega] at hfin; exact hfin) | (rw [show ((a.natAbs : Nat) : Int) = a by omega, show ((b.natAbs : Nat) : Int) = -b by omega] at hfin; exact hfin) | (rw [show ((a.natAbs : Nat) : Int) = a by omega, show ((b.natAbs : Nat) : Int) = b by omega] at hfin; exact hfin)
    · refine ev_lload_n dX2_greatestShared_20 rfl ?_
      refine ev_lneg dX2_greatestShared_21 ?_
      refine ev_goto 26 dX2_greatestShared_22 ?_
      refine ev_lstore dX2_greatestShared_26 (by decide) ?_
      refine ev_ls [some (vL _), none, some (vL _), none, some (vL _), none, some (vL _), none, none, none, none] rfl ?_
      refine ev_iconst dX2_greatestShared_28 ?_
      refine ev_istore dX2_greatestShared_29 (by decide) ?_
      refine ev_ls [some (vL _), none, some (vL _), none, some (vL _), none, some (vL _), none, some (vI _), none, none] rfl ?_
      refine ev_mask [true, true, true, true, true, true, true, true, true, true, true] ?_
      have hfin := loop 63 a.natAbs b.natAbs 0 rfl (by omega) (by omega) hj (by omega)
      first | (rw [show ((a.natAbs : Nat) : Int) = -a by omega, show ((b.natAbs : Nat) : Int) = -b by omega] at hfin; exact hfin) | (rw [show ((a.natAbs : Nat) : Int) = -a by omega, show ((b.natAbs : Nat) : Int) = b by omega] at hfin; exact hfin) | (rw [show ((a.natAbs : Nat) : Int) = a by omega, show ((b.natAbs : Nat) : Int) = -b by omega] at hfin; exact hfin) | (rw [show ((a.natAbs : Nat) : Int) = a by omega, show ((b.natAbs : Nat) : Int) = b by omega] at hfin; exact hfin)
set_option maxRecDepth 100000 in
set_option maxHeartbeats 4000000 in
theorem c_partOf (l : Launch) {M : Mem} {r : Nat} {a : Int} (hr : r < 63) (hlf : lay r = lFrc) (ha : i32 a) : Cm l yX2_partOf cX2_partOf 2 (some .long) 0 0 [vR r, vI a] M (rL (if a = 0 then M r 0 else M r 1) M) := by
  refine cmo [some (vR r), some (vI a)] ?_
  refine ev_iload_n dX2_partOf_0 rfl ?_
  refine ev_if_ne 11 dX2_partOf_1 (by omega) (fun c1 => ?_) (fun c1 => ?_)
  · refine ev_aload_n dX2_partOf_11 rfl ?_
    refine em_getL fX2_13.g dX2_partOf_12 hlf rfl ?_
    exact em_lret dX2_partOf_15 ⟨rfl, by congr 3; split <;> first | rfl | omega⟩
  · refine ev_aload_n dX2_partOf_4 rfl ?_
    refine em_getL fX2_7.g dX2_partOf_5 hlf rfl ?_
    refine ev_goto 15 dX2_partOf_8 ?_
    exact em_lret dX2_partOf_15 ⟨rfl, by congr 3; split <;> first | rfl | omega⟩
set_option maxRecDepth 100000 in
set_option maxHeartbeats 4000000 in
theorem c_roundedDown (l : Launch) {M : Mem} {r : Nat} (hr : r < 63) (hlf : lay r = lFrc) (h0 : -9223372036854775808 < M r 0 ∧ M r 0 < 9223372036854775808) (h1 : 0 < M r 1 ∧ M r 1 < 9223372036854775808) : Cm l yX2_roundedDown cX2_roundedDown 1 (some .long) 1 25 [vR r] M (rL (M r 0 / M r 1) M) := by
  refine cmo [some (vR r)] ?_
  refine ev_aload_n dX2_roundedDown_0 rfl ?_
  refine em_getL fX2_13.g dX2_roundedDown_1 hlf rfl ?_
  refine ev_lconst0 dX2_roundedDown_4 ?_
  refine ev_lcmp_le 23 dX2_roundedDown_5 dX2_roundedDown_6 (by omega) (by omega) (fun c5 => ?_) (fun c5 => ?_)
  · refine ev_lconst0 dX2_roundedDown_23 ?_
    first | exact em_lret dX2_roundedDown_24 ⟨rfl, rfl⟩ | omega
  · refine ev_aload_n dX2_roundedDown_9 rfl ?_
    refine em_getL fX2_7.g dX2_roundedDown_10 hlf rfl ?_
    refine ev_aload_n dX2_roundedDown_13 rfl ?_
    refine em_getL fX2_13.g dX2_roundedDown_14 hlf rfl ?_
    refine em_S2 (c_fdL l _ (by omega) (by omega) (by omega)) mX2_20 dX2_roundedDown_17 ?_
    rintro r M ⟨rfl, rfl⟩
    refine ev_goto 24 dX2_roundedDown_20 ?_
    first | exact em_lret dX2_roundedDown_24 ⟨rfl, rfl⟩ | omega
set_option maxRecDepth 100000 in
set_option maxHeartbeats 4000000 in
theorem c_become (l : Launch) {M : Mem} {r : Nat} {a b : Int} (hr : r < 63) (hlf : lay r = lFrc) (ha : -9223372036854775808 < a ∧ a < 9223372036854775808) (hb : 0 < b ∧ b < 2147483648) : Cm l yX2_become cX2_become 9 none 1 30 [vR r, vL a, vL b] M (rV (up2 (up2 M r 0 (a.tdiv (Int.gcd a b : Int))) r 1 (b.tdiv (Int.gcd a b : Int)))) := by
  have hg1 : 0 < Int.gcd a b := Int.gcd_pos_of_ne_zero_right a (by omega)
  have hg2 : (Int.gcd a b : Int) ≤ b := Int.le_of_dvd (by omega) (Int.gcd_dvd_right a b)
  refine cmo [some (vR r), some (vL a), none, some (vL b), none, none, none, none, none] ?_
  refine ev_lload_n dX2_become_0 rfl ?_
  refine ev_lload_n dX2_become_1 rfl ?_
  refine em_S2 (c_gshared l _ (by omega) (by omega)) mX2_16 dX2_become_2 ?_
  rintro r M ⟨rfl, rfl⟩
  refine ev_lstore dX2_become_5 (by decide) ?_
  refine ev_ls [some (vR _), some (vL _), none, some (vL _), none, some (vL _), none, none, none] rfl ?_
  refine ev_lload_n dX2_become_7 rfl ?_
  refine ev_lconst0 dX2_become_8 ?_
  refine ev_lcmp_eq 20 dX2_become_9 dX2_become_10 (by omega) (by omega) (fun c9 => ?_) (fun c9 => ?_)
  · refine ev_aload_n dX2_become_20 rfl ?_
    refine ev_lconst0 dX2_become_21 ?_
    refine em_putL fX2_7 dX2_become_22 hlf rfl ?_
    refine ev_aload_n dX2_become_25 rfl ?_
    refine ev_lconst1 dX2_become_26 ?_
    refine em_putL fX2_13 dX2_become_27 hlf rfl ?_
    first | exact em_vret dX2_become_30 ⟨rfl, rfl⟩ | omega
  · refine ev_lload dX2_become_13 rfl ?_
    refine ev_lconst0 dX2_become_15 ?_
    refine ev_lcmp_ne 31 dX2_become_16 dX2_become_17 (by omega) (by omega) (fun c16 => ?_) (fun c16 => ?_)
    · refine ev_lload_n dX2_become_31 rfl ?_
      refine ev_lconst0 dX2_become_32 ?_
      refine ev_lcmp_ge 43 dX2_become_33 dX2_become_34 (by omega) (by omega) (fun c33 => ?_) (fun c33 => ?_)
      · refine ev_lload dX2_become_43 rfl ?_
        refine ev_lstore dX2_become_45 (by decide) ?_
        refine ev_ls [some (vR _), some (vL _), none, some (vL _), none, some (vL _), none, some (vL _), none] rfl ?_
        refine ev_aload_n dX2_become_47 rfl ?_
        refine ev_lload_n dX2_become_48 rfl ?_
        refine ev_lload dX2_become_49 rfl ?_
        refine ev_ldiv dX2_become_51 (by omega) (by omega) (by omega) ?_
        refine em_putL fX2_7 dX2_become_52 hlf rfl ?_
        refine ev_aload_n dX2_become_55 rfl ?_
        refine ev_lload_n dX2_become_56 rfl ?_
        refine ev_lload dX2_become_57 rfl ?_
        refine ev_ldiv dX2_become_59 (by omega) (by omega) (by omega) ?_
        refine em_putL fX2_13 dX2_become_60 hlf rfl ?_
        first | exact em_vret dX2_become_63 ⟨rfl, rfl⟩ | omega
      · refine ev_lload dX2_become_37 rfl ?_
        refine ev_lneg dX2_become_39 ?_
        refine ev_goto 45 dX2_become_40 ?_
        refine ev_lstore dX2_become_45 (by decide) ?_
        refine ev_ls [some (vR _), some (vL _), none, some (vL _), none, some (vL _), none, some (vL _), none] rfl ?_
        refine ev_aload_n dX2_become_47 rfl ?_
        refine ev_lload_n dX2_become_48 rfl ?_
        refine ev_lload dX2_become_49 rfl ?_
        refine ev_ldiv dX2_become_51 (by omega) (by omega) (by omega) ?_
        refine em_putL fX2_7 dX2_become_52 hlf rfl ?_
        refine ev_aload_n dX2_become_55 rfl ?_
        refine ev_lload_n dX2_become_56 rfl ?_
        refine ev_lload dX2_become_57 rfl ?_
        refine ev_ldiv dX2_become_59 (by omega) (by omega) (by omega) ?_
        refine em_putL fX2_13 dX2_become_60 hlf rfl ?_
        first | exact em_vret dX2_become_63 ⟨rfl, rfl⟩ | omega
    · refine ev_aload_n dX2_become_20 rfl ?_
      refine ev_lconst0 dX2_become_21 ?_
      refine em_putL fX2_7 dX2_become_22 hlf rfl ?_
      refine ev_aload_n dX2_become_25 rfl ?_
      refine ev_lconst1 dX2_become_26 ?_
      refine em_putL fX2_13 dX2_become_27 hlf rfl ?_
      first | exact em_vret dX2_become_30 ⟨rfl, rfl⟩ | omega
end
section
theorem ev_mem {l : Launch} {y : MethodName} {cc : ByteArray} {nL : Nat} {rt : Option FieldType} {R : Room} {E : EE} {Z : ZZ} {n0 pc : Nat} {ls : List (Option PV)} {st : List PV} {n ce sl : Nat} {M : Mem} (k : ∀ M1, M1 = M → Ev l y cc nL rt R E Z n0 pc ls st n ce sl (hp M1)) : Ev l y cc nL rt R E Z n0 pc ls st n ce sl (hp M) := k M rfl
theorem mb {x z : Int} (a b : Nat) (hx : -(a : Int) ≤ x ∧ x ≤ a) (hz : -(b : Int) ≤ z ∧ z ≤ b) : -((a * b : Nat) : Int) ≤ x * z ∧ x * z ≤ ((a * b : Nat) : Int) := by
  have h1 : (x * z).natAbs = x.natAbs * z.natAbs := Int.natAbs_mul x z
  have h2 : x.natAbs * z.natAbs ≤ a * b := Nat.mul_le_mul (by omega) (by omega)
  rw [← h1] at h2
  omega
/-- a track's numbers are in their ranges -/
def TR (M : Mem) (t : Nat) : Prop := (-100 ≤ M (2 + 2 * t) 0 ∧ M (2 + 2 * t) 0 ≤ 100) ∧ (-100 ≤ M (2 + 2 * t) 1 ∧ M (2 + 2 * t) 1 ≤ 100) ∧ (0 ≤ M (2 + 2 * t) 2 ∧ M (2 + 2 * t) 2 ≤ 1000000) ∧ (-100 ≤ M (2 + 2 * t) 0 + M (2 + 2 * t) 3 ∧ M (2 + 2 * t) 0 + M (2 + 2 * t) 3 ≤ 100) ∧ (-100 ≤ M (2 + 2 * t) 1 + M (2 + 2 * t) 4 ∧ M (2 + 2 * t) 1 + M (2 + 2 * t) 4 ≤ 100) ∧ (0 < M (2 + 2 * t) 5 ∧ M (2 + 2 * t) 2 + M (2 + 2 * t) 5 ≤ 1000000) ∧ (M (2 + 2 * t) 6 = 0 ∨ M (2 + 2 * t) 6 = 1) ∧ ∀ i, i < 9 → M (2 + 2 * t + 1) i = 200000 ∨ (-10000 ≤ M (2 + 2 * t + 1) i ∧ M (2 + 2 * t + 1) i ≤ 10000)
def cTu (A B : Nat → Int) : Int := A 3 * B 4 - A 4 * B 3
def cSg (A B : Nat → Int) : Int := if cTu A B < 0 then -1 else 1
def cBe (A B : Nat → Int) : Int := cSg A B * cTu A B
def cSA (A B : Nat → Int) : Int := cSg A B * ((B 0 - A 0) * B 4 - (B 1 - A 1) * B 3)
def cSB (A B : Nat → Int) : Int := cSg A B * ((B 0 - A 0) * A 4 - (B 1 - A 1) * A 3)
def cIs (A B : Nat → Int) : Prop := cBe A B ≠ 0 ∧ 0 ≤ cSA A B ∧ cSA A B ≤ cBe A B ∧ 0 ≤ cSB A B ∧ cSB A B ≤ cBe A B
/-- the place of the reading at a share, and what is left of it -/
def hI (sh be : Int) : Nat := (8 * sh / be).toNat
def hR (sh be : Int) : Int := 8 * sh % be
def hasH (H : Nat → Int) (sh be : Int) : Prop := H (hI sh be) ≠ 200000 ∧ (hR sh be ≠ 0 → H (hI sh be + 1) ≠ 200000)
def hV (H : Nat → Int) (sh be : Int) : Int := H (hI sh be) * (be - hR sh be) + (if hR sh be = 0 then H (hI sh be) else H (hI sh be + 1)) * hR sh be
theorem h_facts {sh be : Int} (hb : 0 < be) (h0 : 0 ≤ sh) (h1 : sh ≤ be) : (8 * sh).tdiv be = (hI sh be : Int) ∧ (8 * sh).tmod be = hR sh be ∧ 8 * sh - (hI sh be : Int) * be = hR sh be ∧ 0 ≤ hR sh be ∧ hR sh be < be ∧ hI sh be ≤ 8 ∧ (hI sh be = 8 → hR sh be = 0) := by
  have e1 := Int.mul_ediv_add_emod (8 * sh) be
  have e2 := Int.emod_nonneg (8 * sh) (show be ≠ 0 by omega)
  have e3 := Int.emod_lt_of_pos (8 * sh) hb
  have e4 : 0 ≤ 8 * sh / be := Int.ediv_nonneg (by omega) (by omega)
  have e5 : 8 * sh / be ≤ 8 * be / be := Int.ediv_le_ediv hb (by omega)
  rw [Int.mul_ediv_cancel _ (show be ≠ 0 by omega)] at e5
  have e6 : ((8 * sh / be).toNat : Int) = 8 * sh / be := Int.toNat_of_nonneg e4
  rw [Int.mul_comm be] at e1
  unfold hI hR
  refine ⟨by rw [Int.tdiv_eq_ediv_of_nonneg (by omega), e6], by rw [Int.tmod_eq_emod_of_nonneg (by omega)], by rw [e6]; omega, e2, e3, by omega, fun q => ?_⟩
  have e7 : 8 * sh / be = 8 := by omega
  rw [e7] at e1
  omega
theorem hV_0 {H : Nat → Int} {sh be : Int} (h : hR sh be = 0) : hV H sh be = H (hI sh be) * be := by
  unfold hV
  rw [if_pos h, h, Int.mul_zero, Int.add_zero, Int.sub_zero]
theorem hV_1 {H : Nat → Int} {sh be : Int} (h : ¬ hR sh be = 0) : hV H sh be = H (hI sh be) * be + (H (hI sh be + 1) - H (hI sh be)) * hR sh be := by
  unfold hV
  rw [if_neg h, Int.mul_sub, Int.sub_mul]
  omega
set_option maxRecDepth 100000 in
set_option maxHeartbeats 4000000 in
theorem c_runFrom (l : Launch) {M : Mem} {i : Nat} {a b c : Int} (hi : i < 8) : Cm l yX4_runFrom cX4_runFrom 4 none 0 0 [vR (2 + 2 * i), vI a, vI b, vI c] M (rV (up2 (up2 (up2 M (2 + 2 * i) 0 a) (2 + 2 * i) 1 b) (2 + 2 * i) 2 c)) := by
  refine cmo [some (vR (2 + 2 * i)), some (vI a), some (vI b), some (vI c)] ?_
  refine ev_aload_n dX4_runFrom_0 rfl ?_
  refine ev_iload_n dX4_runFrom_1 rfl ?_
  refine em_putI fX4_16 dX4_runFrom_2 (lay_trk (i := i) (by omega)) rfl ?_
  refine ev_aload_n dX4_runFrom_5 rfl ?_
  refine ev_iload_n dX4_runFrom_6 rfl ?_
  refine em_putI fX4_20 dX4_runFrom_7 (lay_trk (i := i) (by omega)) rfl ?_
  refine ev_aload_n dX4_runFrom_10 rfl ?_
  refine ev_iload_n dX4_runFrom_11 rfl ?_
  refine em_putI fX4_23 dX4_runFrom_12 (lay_trk (i := i) (by omega)) rfl ?_
  exact em_vret dX4_runFrom_15 ⟨rfl, rfl⟩
set_option maxRecDepth 100000 in
set_option maxHeartbeats 4000000 in
theorem c_runTo (l : Launch) {M : Mem} {i : Nat} {a b c : Int} (hi : i < 8) : Cm l yX4_runTo cX4_runTo 4 none 0 0 [vR (2 + 2 * i), vI a, vI b, vI c] M (rV (up2 (up2 (up2 M (2 + 2 * i) 3 (a - M (2 + 2 * i) 0)) (2 + 2 * i) 4 (b - M (2 + 2 * i) 1)) (2 + 2 * i) 5 (c - M (2 + 2 * i) 2))) := by
  refine cmo [some (vR (2 + 2 * i)), some (vI a), some (vI b), some (vI c)] ?_
  refine ev_aload_n dX4_runTo_0 rfl ?_
  refine ev_iload_n dX4_runTo_1 rfl ?_
  refine ev_aload_n dX4_runTo_2 rfl ?_
  refine em_getI fX4_16.g dX4_runTo_3 (lay_trk (i := i) (by omega)) rfl ?_
  refine ev_isub dX4_runTo_6 ?_
  refine em_putI fX4_26 dX4_runTo_7 (lay_trk (i := i) (by omega)) rfl ?_
  refine ev_aload_n dX4_runTo_10 rfl ?_
  refine ev_iload_n dX4_runTo_11 rfl ?_
  refine ev_aload_n dX4_runTo_12 rfl ?_
  refine em_getI fX4_20.g dX4_runTo_13 (lay_trk (i := i) (by omega)) rfl ?_
  refine ev_isub dX4_runTo_16 ?_
  refine em_putI fX4_29 dX4_runTo_17 (lay_trk (i := i) (by omega)) rfl ?_
  refine ev_aload_n dX4_runTo_20 rfl ?_
  refine ev_iload_n dX4_runTo_21 rfl ?_
  refine ev_aload_n dX4_runTo_22 rfl ?_
  refine em_getI fX4_23.g dX4_runTo_23 (lay_trk (i := i) (by omega)) rfl ?_
  refine ev_isub dX4_runTo_26 ?_
  refine em_putI fX4_32 dX4_runTo_27 (lay_trk (i := i) (by omega)) rfl ?_
  exact em_vret dX4_runTo_30 ⟨by rw [up2_ne _ _ _ _ (Or.inr (by omega)), up2_ne _ _ _ _ (Or.inr (by omega)), up2_ne _ _ _ _ (Or.inr (by omega))], rfl⟩
set_option maxRecDepth 100000 in
set_option maxHeartbeats 4000000 in
theorem c_htb (l : Launch) {M : Mem} {i : Nat} {sh be : Int} (hi : i < 8) (hT : TR M i) (hb : 0 < be) (hb2 : be ≤ 80000) (h0 : 0 ≤ sh) (h1 : sh ≤ be) : Cm l yX4_heightTimesBelow cX4_heightTimesBelow 8 (some .long) 0 0 [vR (2 + 2 * i), vL sh, vL be] M (fun r M' => M' = M ∧ ((¬ hasH (M (2 + 2 * i + 1)) sh be ∧ r = some (vL (-1000000000000000000))) ∨ (hasH (M (2 + 2 * i + 1)) sh be ∧ r = some (vL (hV (M (2 + 2 * i + 1)) sh be))))) := by
  refine cmo [some (vR (2 + 2 * i)), some (vL sh), none, some (vL be), none, none, none, none] ?_
  obtain ⟨f1, f2, f3, f4, f5, f6, f7⟩ := h_facts hb h0 h1
  have hx := hT.2.2.2.2.2.2.2
  have ha := hx (hI sh be) (by omega)
  have hp1 : i32 (hI sh be : Int) := by omega
  refine ev_lload_n dX4_heightTimesBelow_0 rfl ?_
  refine ev_lconst0 dX4_heightTimesBelow_1 ?_
  refine ev_lcmp_le 18 dX4_heightTimesBelow_2 dX4_heightTimesBelow_3 (by omega) (by omega) (fun c2 => ?_) (fun c2 => ?_)
  · refine ev_ldc2 (-1000000000000000000) kX4_35 dX4_heightTimesBelow_18 (by decide) ?_
    omega
  · refine ev_lload_n dX4_heightTimesBelow_6 rfl ?_
    refine ev_lconst0 dX4_heightTimesBelow_7 ?_
    refine ev_lcmp_lt 18 dX4_heightTimesBelow_8 dX4_heightTimesBelow_9 (by omega) (by omega) (fun c8 => ?_) (fun c8 => ?_)
    · refine ev_ldc2 (-1000000000000000000) kX4_35 dX4_heightTimesBelow_18 (by decide) ?_
      omega
    · refine ev_lload_n dX4_heightTimesBelow_12 rfl ?_
      refine ev_lload_n dX4_heightTimesBelow_13 rfl ?_
      refine ev_lcmp_le 22 dX4_heightTimesBelow_14 dX4_heightTimesBelow_15 (by omega) (by omega) (fun c14 => ?_) (fun c14 => ?_)
      · refine ev_ldc2 (8) kX4_37 dX4_heightTimesBelow_22 (by decide) ?_
        refine ev_lload_n dX4_heightTimesBelow_25 rfl ?_
        refine ev_lmul dX4_heightTimesBelow_26 ?_
        refine ev_lload_n dX4_heightTimesBelow_27 rfl ?_
        refine ev_ldiv dX4_heightTimesBelow_28 (by omega) (by omega) (by omega) ?_
        rw [f1]
        refine ev_l2i dX4_heightTimesBelow_29 ?_
        refine ev_istore dX4_heightTimesBelow_30 (by decide) ?_
        refine ev_ls [some (vR _), some (vL _), none, some (vL _), none, some (vI _), none, none] rfl ?_
        refine ev_ldc2 (8) kX4_37 dX4_heightTimesBelow_32 (by decide) ?_
        refine ev_lload_n dX4_heightTimesBelow_35 rfl ?_
        refine ev_lmul dX4_heightTimesBelow_36 ?_
        refine ev_iload dX4_heightTimesBelow_37 rfl ?_
        refine ev_i2l dX4_heightTimesBelow_39 (by omega) ?_
        refine ev_lload_n dX4_heightTimesBelow_40 rfl ?_
        refine ev_lmul dX4_heightTimesBelow_41 ?_
        refine ev_lsub dX4_heightTimesBelow_42 ?_
        rw [f3]
        refine ev_lstore dX4_heightTimesBelow_43 (by decide) ?_
        refine ev_ls [some (vR _), some (vL _), none, some (vL _), none, some (vI _), some (vL _), none] rfl ?_
        refine ev_aload_n dX4_heightTimesBelow_45 rfl ?_
        refine em_getR fX4_9.g dX4_heightTimesBelow_46 (lay_trk (i := i) (by omega)) rfl ?_
        refine ev_iload dX4_heightTimesBelow_49 rfl ?_
        refine en_iald (hI sh be) dX4_heightTimesBelow_51 (lay_hts (i := i) (by omega)) (by omega) (by omega) ?_
        refine ev_ldc (200000) kX4_15 dX4_heightTimesBelow_52 (by decide) ?_
        refine ev_icmp_ne 61 dX4_heightTimesBelow_54 (by omega) (by omega) (fun c54 => ?_) (fun c54 => ?_)
        · refine ev_lload dX4_heightTimesBelow_61 rfl ?_
          refine ev_lconst0 dX4_heightTimesBelow_63 ?_
          refine ev_lcmp_eq 75 dX4_heightTimesBelow_64 dX4_heightTimesBelow_65 (by omega) (by omega) (fun c64 => ?_) (fun c64 => ?_)
          · refine ev_aload_n dX4_heightTimesBelow_75 rfl ?_
            refine em_getR fX4_9.g dX4_heightTimesBelow_76 (lay_trk (i := i) (by omega)) rfl ?_
            refine ev_iload dX4_heightTimesBelow_79 rfl ?_
            refine en_iald (hI sh be) dX4_heightTimesBelow_81 (lay_hts (i := i) (by omega)) (by omega) (by omega) ?_
            refine ev_i2l dX4_heightTimesBelow_82 (by omega) ?_
            refine ev_lload_n dX4_heightTimesBelow_83 rfl ?_
            refine ev_lmul dX4_heightTimesBelow_84 ?_
            exact em_lret dX4_heightTimesBelow_85 ⟨rfl, Or.inr ⟨⟨by omega, fun q => by omega⟩, by rw [hV_0 (by omega)]⟩⟩
          · refine ev_iload dX4_heightTimesBelow_68 rfl ?_
            refine ev_bipush dX4_heightTimesBelow_70 (by decide) ?_
            refine ev_icmp_lt 86 dX4_heightTimesBelow_72 (by omega) (by omega) (fun c72 => ?_) (fun c72 => ?_)
            · have hlt : hI sh be < 8 := by omega
              have hb2 := hx (hI sh be + 1) (by omega)
              refine ev_aload_n dX4_heightTimesBelow_86 rfl ?_
              refine em_getR fX4_9.g dX4_heightTimesBelow_87 (lay_trk (i := i) (by omega)) rfl ?_
              refine ev_iload dX4_heightTimesBelow_90 rfl ?_
              refine ev_iconst dX4_heightTimesBelow_92 ?_
              refine ev_iadd dX4_heightTimesBelow_93 ?_
              refine en_iald (hI sh be + 1) dX4_heightTimesBelow_94 (lay_hts (i := i) (by omega)) (by omega) (by omega) ?_
              refine ev_ldc (200000) kX4_15 dX4_heightTimesBelow_95 (by decide) ?_
              refine ev_icmp_ne 104 dX4_heightTimesBelow_97 (by omega) (by omega) (fun c97 => ?_) (fun c97 => ?_)
              · refine ev_aload_n dX4_heightTimesBelow_104 rfl ?_
                refine em_getR fX4_9.g dX4_heightTimesBelow_105 (lay_trk (i := i) (by omega)) rfl ?_
                refine ev_iload dX4_heightTimesBelow_108 rfl ?_
                refine en_iald (hI sh be) dX4_heightTimesBelow_110 (lay_hts (i := i) (by omega)) (by omega) (by omega) ?_
                refine ev_i2l dX4_heightTimesBelow_111 (by omega) ?_
                refine ev_lload_n dX4_heightTimesBelow_112 rfl ?_
                refine ev_lmul dX4_heightTimesBelow_113 ?_
                refine ev_aload_n dX4_heightTimesBelow_114 rfl ?_
                refine em_getR fX4_9.g dX4_heightTimesBelow_115 (lay_trk (i := i) (by omega)) rfl ?_
                refine ev_iload dX4_heightTimesBelow_118 rfl ?_
                refine ev_iconst dX4_heightTimesBelow_120 ?_
                refine ev_iadd dX4_heightTimesBelow_121 ?_
                refine en_iald (hI sh be + 1) dX4_heightTimesBelow_122 (lay_hts (i := i) (by omega)) (by omega) (by omega) ?_
                refine ev_aload_n dX4_heightTimesBelow_123 rfl ?_
                refine em_getR fX4_9.g dX4_heightTimesBelow_124 (lay_trk (i := i) (by omega)) rfl ?_
                refine ev_iload dX4_heightTimesBelow_127 rfl ?_
                refine en_iald (hI sh be) dX4_heightTimesBelow_129 (lay_hts (i := i) (by omega)) (by omega) (by omega) ?_
                refine ev_isub dX4_heightTimesBelow_130 ?_
                refine ev_i2l dX4_heightTimesBelow_131 (by omega) ?_
                refine ev_lload dX4_heightTimesBelow_132 rfl ?_
                refine ev_lmul dX4_heightTimesBelow_134 ?_
                refine ev_ladd dX4_heightTimesBelow_135 ?_
                exact em_lret dX4_heightTimesBelow_136 ⟨rfl, Or.inr ⟨⟨by omega, fun q => by omega⟩, by rw [hV_1 (by omega)]⟩⟩
              · refine ev_ldc2 (-1000000000000000000) kX4_35 dX4_heightTimesBelow_100 (by decide) ?_
                exact em_lret dX4_heightTimesBelow_103 ⟨rfl, Or.inl ⟨fun q => q.2 (by omega) (by omega), rfl⟩⟩
            · refine ev_aload_n dX4_heightTimesBelow_75 rfl ?_
              refine em_getR fX4_9.g dX4_heightTimesBelow_76 (lay_trk (i := i) (by omega)) rfl ?_
              refine ev_iload dX4_heightTimesBelow_79 rfl ?_
              refine en_iald (hI sh be) dX4_heightTimesBelow_81 (lay_hts (i := i) (by omega)) (by omega) (by omega) ?_
              refine ev_i2l dX4_heightTimesBelow_82 (by omega) ?_
              refine ev_lload_n dX4_heightTimesBelow_83 rfl ?_
              refine ev_lmul dX4_heightTimesBelow_84 ?_
              exact em_lret dX4_heightTimesBelow_85 ⟨rfl, Or.inr ⟨⟨by omega, fun q => by omega⟩, by rw [hV_0 (by omega)]⟩⟩
        · refine ev_ldc2 (-1000000000000000000) kX4_35 dX4_heightTimesBelow_57 (by decide) ?_
          exact em_lret dX4_heightTimesBelow_60 ⟨rfl, Or.inl ⟨fun q => q.1 (by omega), rfl⟩⟩
      · refine ev_ldc2 (-1000000000000000000) kX4_35 dX4_heightTimesBelow_18 (by decide) ?_
        omega
set_option maxRecDepth 100000 in
set_option maxHeartbeats 4000000 in
theorem c_find (l : Launch) {M : Mem} {i j : Nat} (hi : i < 8) (hj : j < 8) (hA : TR M i) (hB : TR M j) : Cm l yX1_find cX1_find 11 none 0 0 [vR 18, vR (2 + 2 * i), vR (2 + 2 * j)] M (fun r M' => r = none ∧ (∀ k, k ≠ 18 → M' k = M k) ∧ M' 18 1 = cBe (M (2 + 2 * i)) (M (2 + 2 * j)) ∧ M' 18 2 = cSA (M (2 + 2 * i)) (M (2 + 2 * j)) ∧ M' 18 3 = cSB (M (2 + 2 * i)) (M (2 + 2 * j)) ∧ ((M' 18 0 = 0 ∧ ¬ cIs (M (2 + 2 * i)) (M (2 + 2 * j))) ∨ (M' 18 0 = 1 ∧ cIs (M (2 + 2 * i)) (M (2 + 2 * j))))) := by
  refine cmo [some (vR 18), some (vR (2 + 2 * i)), some (vR (2 + 2 * j)), none, none, none, none, none, none, none, none] ?_
  obtain ⟨a0, a1, a2, a3, a4, a5, a6, -⟩ := hA
  obtain ⟨b0, b1, b2, b3, b4, b5, b6, -⟩ := hB
  have p0 := mb (x := M (2 + 2 * i) 3) (z := M (2 + 2 * j) 4) 200 200 (by omega) (by omega)
  have p1 := mb (x := M (2 + 2 * i) 4) (z := M (2 + 2 * j) 3) 200 200 (by omega) (by omega)
  have p2 := mb (x := (M (2 + 2 * j) 0 - M (2 + 2 * i) 0)) (z := M (2 + 2 * j) 4) 200 200 (by omega) (by omega)
  have p3 := mb (x := (M (2 + 2 * j) 1 - M (2 + 2 * i) 1)) (z := M (2 + 2 * j) 3) 200 200 (by omega) (by omega)
  have p4 := mb (x := (M (2 + 2 * j) 0 - M (2 + 2 * i) 0)) (z := M (2 + 2 * i) 4) 200 200 (by omega) (by omega)
  have p5 := mb (x := (M (2 + 2 * j) 1 - M (2 + 2 * i) 1)) (z := M (2 + 2 * i) 3) 200 200 (by omega) (by omega)
  refine ev_aload_n dX1_find_0 rfl ?_
  refine em_getI fX1_19.g dX1_find_1 (lay_trk (i := i) (by omega)) rfl ?_
  refine ev_i2l dX1_find_4 (by omega) ?_
  refine ev_aload_n dX1_find_5 rfl ?_
  refine em_getI fX1_25.g dX1_find_6 (lay_trk (i := j) (by omega)) rfl ?_
  refine ev_i2l dX1_find_9 (by omega) ?_
  refine ev_lmul dX1_find_10 ?_
  refine ev_aload_n dX1_find_11 rfl ?_
  refine em_getI fX1_25.g dX1_find_12 (lay_trk (i := i) (by omega)) rfl ?_
  refine ev_i2l dX1_find_15 (by omega) ?_
  refine ev_aload_n dX1_find_16 rfl ?_
  refine em_getI fX1_19.g dX1_find_17 (lay_trk (i := j) (by omega)) rfl ?_
  refine ev_i2l dX1_find_20 (by omega) ?_
  refine ev_lmul dX1_find_21 ?_
  refine ev_lsub dX1_find_22 ?_
  refine ev_lstore_n dX1_find_23 (by decide) ?_
  refine ev_ls [some (vR _), some (vR _), some (vR _), some (vL _), none, none, none, none, none, none, none] rfl ?_
  refine ev_lload_n dX1_find_24 rfl ?_
  refine ev_lconst0 dX1_find_25 ?_
  refine ev_lcmp_ge 36 dX1_find_26 dX1_find_27 (by omega) (by omega) (fun c26 => ?_) (fun c26 => ?_)
  · refine ev_lconst1 dX1_find_36 ?_
    refine ev_lstore dX1_find_37 (by decide) ?_
    refine ev_ls [some (vR _), some (vR _), some (vR _), some (vL _), none, some (vL _), none, none, none, none, none] rfl ?_
    refine ev_aload_n dX1_find_39 rfl ?_
    refine em_getI fX1_30.g dX1_find_40 (lay_trk (i := j) (by omega)) rfl ?_
    refine ev_aload_n dX1_find_43 rfl ?_
    refine em_getI fX1_30.g dX1_find_44 (lay_trk (i := i) (by omega)) rfl ?_
    refine ev_isub dX1_find_47 ?_
    refine ev_i2l dX1_find_48 (by omega) ?_
    refine ev_lstore dX1_find_49 (by decide) ?_
    refine ev_ls [some (vR _), some (vR _), some (vR _), some (vL _), none, some (vL _), none, some (vL _), none, none, none] rfl ?_
    refine ev_aload_n dX1_find_51 rfl ?_
    refine em_getI fX1_33.g dX1_find_52 (lay_trk (i := j) (by omega)) rfl ?_
    refine ev_aload_n dX1_find_55 rfl ?_
    refine em_getI fX1_33.g dX1_find_56 (lay_trk (i := i) (by omega)) rfl ?_
    refine ev_isub dX1_find_59 ?_
    refine ev_i2l dX1_find_60 (by omega) ?_
    refine ev_lstore dX1_find_61 (by decide) ?_
    refine ev_ls [some (vR _), some (vR _), some (vR _), some (vL _), none, some (vL _), none, some (vL _), none, some (vL _), none] rfl ?_
    refine ev_aload_n dX1_find_63 rfl ?_
    refine ev_lload dX1_find_64 rfl ?_
    refine ev_lload dX1_find_66 rfl ?_
    refine ev_aload_n dX1_find_68 rfl ?_
    refine em_getI fX1_25.g dX1_find_69 (lay_trk (i := j) (by omega)) rfl ?_
    refine ev_i2l dX1_find_72 (by omega) ?_
    refine ev_lmul dX1_find_73 ?_
    refine ev_lload dX1_find_74 rfl ?_
    refine ev_aload_n dX1_find_76 rfl ?_
    refine em_getI fX1_19.g dX1_find_77 (lay_trk (i := j) (by omega)) rfl ?_
    refine ev_i2l dX1_find_80 (by omega) ?_
    refine ev_lmul dX1_find_81 ?_
    refine ev_lsub dX1_find_82 ?_
    refine ev_lmul dX1_find_83 ?_
    refine em_putL fX1_36 dX1_find_84 lay_18 rfl ?_
    refine ev_mem (fun M0 hM0 => ?_)
    have k0 : ∀ k, k ≠ 18 → M0 k = M k := fun k hk => by rw [hM0, up2_row _ _ _ _ hk]
    have r3 : M0 (2 + 2 * i) 3 = M (2 + 2 * i) 3 := by rw [k0 _ (by omega)]
    have r4 : M0 (2 + 2 * i) 4 = M (2 + 2 * i) 4 := by rw [k0 _ (by omega)]
    refine ev_aload_n dX1_find_87 rfl ?_
    refine ev_lload dX1_find_88 rfl ?_
    refine ev_lload dX1_find_90 rfl ?_
    refine ev_aload_n dX1_find_92 rfl ?_
    refine em_getI fX1_25.g dX1_find_93 (lay_trk (i := i) (by omega)) rfl ?_
    refine ev_i2l dX1_find_96 (by omega) ?_
    refine ev_lmul dX1_find_97 ?_
    refine ev_lload dX1_find_98 rfl ?_
    refine ev_aload_n dX1_find_100 rfl ?_
    refine em_getI fX1_19.g dX1_find_101 (lay_trk (i := i) (by omega)) rfl ?_
    refine ev_i2l dX1_find_104 (by omega) ?_
    refine ev_lmul dX1_find_105 ?_
    refine ev_lsub dX1_find_106 ?_
    refine ev_lmul dX1_find_107 ?_
    rw [r3, r4]
    refine em_putL fX1_39 dX1_find_108 lay_18 rfl ?_
    refine ev_aload_n dX1_find_111 rfl ?_
    refine ev_lload dX1_find_112 rfl ?_
    refine ev_lload_n dX1_find_114 rfl ?_
    refine ev_lmul dX1_find_115 ?_
    refine em_putL fX1_15 dX1_find_116 lay_18 rfl ?_
    refine ev_mem (fun M1 hM1 => ?_)
    have hsg : cSg (M (2 + 2 * i)) (M (2 + 2 * j)) = if (M (2 + 2 * i) 3 * M (2 + 2 * j) 4 - M (2 + 2 * i) 4 * M (2 + 2 * j) 3) < 0 then -1 else 1 := rfl
    first | rw [if_neg (by omega)] at hsg | rw [if_pos (by omega)] at hsg
    have k1 : ∀ k, k ≠ 18 → M1 k = M k := fun k hk => by rw [hM1, up2_row _ _ _ _ hk, up2_row _ _ _ _ hk, k0 k hk]
    have g1 : M1 18 1 = cBe (M (2 + 2 * i)) (M (2 + 2 * j)) := by rw [hM1, up2_same]; unfold cBe cTu; rw [hsg]
    have g2 : M1 18 2 = cSA (M (2 + 2 * i)) (M (2 + 2 * j)) := by rw [hM1, up2_ne _ _ _ _ (Or.inr (by omega)), up2_ne _ _ _ _ (Or.inr (by omega)), hM0, up2_same]; unfold cSA; rw [hsg]
    have g3 : M1 18 3 = cSB (M (2 + 2 * i)) (M (2 + 2 * j)) := by rw [hM1, up2_ne _ _ _ _ (Or.inr (by omega)), up2_same]; unfold cSB; rw [hsg]
    have w1 : -80000 ≤ M1 18 1 ∧ M1 18 1 ≤ 80000 := by rw [g1]; unfold cBe cTu; rw [hsg]; omega
    have w2 : -80000 ≤ M1 18 2 ∧ M1 18 2 ≤ 80000 := by rw [g2]; unfold cSA; rw [hsg]; omega
    have w3 : -80000 ≤ M1 18 3 ∧ M1 18 3 ≤ 80000 := by rw [g3]; unfold cSB; rw [hsg]; omega
    clear hM1
    refine ev_aload_n dX1_find_119 rfl ?_
    refine ev_aload_n dX1_find_120 rfl ?_
    refine em_getL fX1_15.g dX1_find_121 lay_18 rfl ?_
    refine ev_lconst0 dX1_find_124 ?_
    refine ev_lcmp_eq 175 dX1_find_125 dX1_find_126 (by omega) (by omega) (fun c125 => ?_) (fun c125 => ?_)
    · refine ev_iconst dX1_find_175 ?_
      refine em_putZ fX1_9 dX1_find_176 lay_18 rfl (by omega) ?_
      exact em_vret dX1_find_179 ⟨rfl, fun k hk => by rw [up2_row _ _ _ _ hk]; exact k1 k hk, by rw [up2_ne _ _ _ _ (Or.inr (by omega))]; exact g1, by rw [up2_ne _ _ _ _ (Or.inr (by omega))]; exact g2, by rw [up2_ne _ _ _ _ (Or.inr (by omega))]; exact g3, by rw [up2_same]; unfold cIs; omega⟩
    · refine ev_aload_n dX1_find_129 rfl ?_
      refine em_getL fX1_36.g dX1_find_130 lay_18 rfl ?_
      refine ev_lconst0 dX1_find_133 ?_
      refine ev_lcmp_lt 175 dX1_find_134 dX1_find_135 (by omega) (by omega) (fun c134 => ?_) (fun c134 => ?_)
      · refine ev_iconst dX1_find_175 ?_
        refine em_putZ fX1_9 dX1_find_176 lay_18 rfl (by omega) ?_
        exact em_vret dX1_find_179 ⟨rfl, fun k hk => by rw [up2_row _ _ _ _ hk]; exact k1 k hk, by rw [up2_ne _ _ _ _ (Or.inr (by omega))]; exact g1, by rw [up2_ne _ _ _ _ (Or.inr (by omega))]; exact g2, by rw [up2_ne _ _ _ _ (Or.inr (by omega))]; exact g3, by rw [up2_same]; unfold cIs; omega⟩
      · refine ev_aload_n dX1_find_138 rfl ?_
        refine em_getL fX1_36.g dX1_find_139 lay_18 rfl ?_
        refine ev_aload_n dX1_find_142 rfl ?_
        refine em_getL fX1_15.g dX1_find_143 lay_18 rfl ?_
        refine ev_lcmp_gt 175 dX1_find_146 dX1_find_147 (by omega) (by omega) (fun c146 => ?_) (fun c146 => ?_)
        · refine ev_iconst dX1_find_175 ?_
          refine em_putZ fX1_9 dX1_find_176 lay_18 rfl (by omega) ?_
          exact em_vret dX1_find_179 ⟨rfl, fun k hk => by rw [up2_row _ _ _ _ hk]; exact k1 k hk, by rw [up2_ne _ _ _ _ (Or.inr (by omega))]; exact g1, by rw [up2_ne _ _ _ _ (Or.inr (by omega))]; exact g2, by rw [up2_ne _ _ _ _ (Or.inr (by omega))]; exact g3, by rw [up2_same]; unfold cIs; omega⟩
        · refine ev_aload_n dX1_find_150 rfl ?_
          refine em_getL fX1_39.g dX1_find_151 lay_18 rfl ?_
          refine ev_lconst0 dX1_find_154 ?_
          refine ev_lcmp_lt 175 dX1_find_155 dX1_find_156 (by omega) (by omega) (fun c155 => ?_) (fun c155 => ?_)
          · refine ev_iconst dX1_find_175 ?_
            refine em_putZ fX1_9 dX1_find_176 lay_18 rfl (by omega) ?_
            exact em_vret dX1_find_179 ⟨rfl, fun k hk => by rw [up2_row _ _ _ _ hk]; exact k1 k hk, by rw [up2_ne _ _ _ _ (Or.inr (by omega))]; exact g1, by rw [up2_ne _ _ _ _ (Or.inr (by omega))]; exact g2, by rw [up2_ne _ _ _ _ (Or.inr (by omega))]; exact g3, by rw [up2_same]; unfold cIs; omega⟩
          · refine ev_aload_n dX1_find_159 rfl ?_
            refine em_getL fX1_39.g dX1_find_160 lay_18 rfl ?_
            refine ev_aload_n dX1_find_163 rfl ?_
            refine em_getL fX1_15.g dX1_find_164 lay_18 rfl ?_
            refine ev_lcmp_gt 175 dX1_find_167 dX1_find_168 (by omega) (by omega) (fun c167 => ?_) (fun c167 => ?_)
            · refine ev_iconst dX1_find_175 ?_
              refine em_putZ fX1_9 dX1_find_176 lay_18 rfl (by omega) ?_
              exact em_vret dX1_find_179 ⟨rfl, fun k hk => by rw [up2_row _ _ _ _ hk]; exact k1 k hk, by rw [up2_ne _ _ _ _ (Or.inr (by omega))]; exact g1, by rw [up2_ne _ _ _ _ (Or.inr (by omega))]; exact g2, by rw [up2_ne _ _ _ _ (Or.inr (by omega))]; exact g3, by rw [up2_same]; unfold cIs; omega⟩
            · refine ev_iconst dX1_find_171 ?_
              refine ev_goto 176 dX1_find_172 ?_
              refine em_putZ fX1_9 dX1_find_176 lay_18 rfl (by omega) ?_
              exact em_vret dX1_find_179 ⟨rfl, fun k hk => by rw [up2_row _ _ _ _ hk]; exact k1 k hk, by rw [up2_ne _ _ _ _ (Or.inr (by omega))]; exact g1, by rw [up2_ne _ _ _ _ (Or.inr (by omega))]; exact g2, by rw [up2_ne _ _ _ _ (Or.inr (by omega))]; exact g3, by rw [up2_same]; unfold cIs; omega⟩
  · refine ev_ldc2 (-1) kX1_28 dX1_find_30 (by decide) ?_
    refine ev_goto 37 dX1_find_33 ?_
    refine ev_lstore dX1_find_37 (by decide) ?_
    refine ev_ls [some (vR _), some (vR _), some (vR _), some (vL _), none, some (vL _), none, none, none, none, none] rfl ?_
    refine ev_aload_n dX1_find_39 rfl ?_
    refine em_getI fX1_30.g dX1_find_40 (lay_trk (i := j) (by omega)) rfl ?_
    refine ev_aload_n dX1_find_43 rfl ?_
    refine em_getI fX1_30.g dX1_find_44 (lay_trk (i := i) (by omega)) rfl ?_
    refine ev_isub dX1_find_47 ?_
    refine ev_i2l dX1_find_48 (by omega) ?_
    refine ev_lstore dX1_find_49 (by decide) ?_
    refine ev_ls [some (vR _), some (vR _), some (vR _), some (vL _), none, some (vL _), none, some (vL _), none, none, none] rfl ?_
    refine ev_aload_n dX1_find_51 rfl ?_
    refine em_getI fX1_33.g dX1_find_52 (lay_trk (i := j) (by omega)) rfl ?_
    refine ev_aload_n dX1_find_55 rfl ?_
    refine em_getI fX1_33.g dX1_find_56 (lay_trk (i := i) (by omega)) rfl ?_
    refine ev_isub dX1_find_59 ?_
    refine ev_i2l dX1_find_60 (by omega) ?_
    refine ev_lstore dX1_find_61 (by decide) ?_
    refine ev_ls [some (vR _), some (vR _), some (vR _), some (vL _), none, some (vL _), none, some (vL _), none, some (vL _), none] rfl ?_
    refine ev_aload_n dX1_find_63 rfl ?_
    refine ev_lload dX1_find_64 rfl ?_
    refine ev_lload dX1_find_66 rfl ?_
    refine ev_aload_n dX1_find_68 rfl ?_
    refine em_getI fX1_25.g dX1_find_69 (lay_trk (i := j) (by omega)) rfl ?_
    refine ev_i2l dX1_find_72 (by omega) ?_
    refine ev_lmul dX1_find_73 ?_
    refine ev_lload dX1_find_74 rfl ?_
    refine ev_aload_n dX1_find_76 rfl ?_
    refine em_getI fX1_19.g dX1_find_77 (lay_trk (i := j) (by omega)) rfl ?_
    refine ev_i2l dX1_find_80 (by omega) ?_
    refine ev_lmul dX1_find_81 ?_
    refine ev_lsub dX1_find_82 ?_
    refine ev_lmul dX1_find_83 ?_
    refine em_putL fX1_36 dX1_find_84 lay_18 rfl ?_
    refine ev_mem (fun M0 hM0 => ?_)
    have k0 : ∀ k, k ≠ 18 → M0 k = M k := fun k hk => by rw [hM0, up2_row _ _ _ _ hk]
    have r3 : M0 (2 + 2 * i) 3 = M (2 + 2 * i) 3 := by rw [k0 _ (by omega)]
    have r4 : M0 (2 + 2 * i) 4 = M (2 + 2 * i) 4 := by rw [k0 _ (by omega)]
    refine ev_aload_n dX1_find_87 rfl ?_
    refine ev_lload dX1_find_88 rfl ?_
    refine ev_lload dX1_find_90 rfl ?_
    refine ev_aload_n dX1_find_92 rfl ?_
    refine em_getI fX1_25.g dX1_find_93 (lay_trk (i := i) (by omega)) rfl ?_
    refine ev_i2l dX1_find_96 (by omega) ?_
    refine ev_lmul dX1_find_97 ?_
    refine ev_lload dX1_find_98 rfl ?_
    refine ev_aload_n dX1_find_100 rfl ?_
    refine em_getI fX1_19.g dX1_find_101 (lay_trk (i := i) (by omega)) rfl ?_
    refine ev_i2l dX1_find_104 (by omega) ?_
    refine ev_lmul dX1_find_105 ?_
    refine ev_lsub dX1_find_106 ?_
    refine ev_lmul dX1_find_107 ?_
    rw [r3, r4]
    refine em_putL fX1_39 dX1_find_108 lay_18 rfl ?_
    refine ev_aload_n dX1_find_111 rfl ?_
    refine ev_lload dX1_find_112 rfl ?_
    refine ev_lload_n dX1_find_114 rfl ?_
    refine ev_lmul dX1_find_115 ?_
    refine em_putL fX1_15 dX1_find_116 lay_18 rfl ?_
    refine ev_mem (fun M1 hM1 => ?_)
    have hsg : cSg (M (2 + 2 * i)) (M (2 + 2 * j)) = if (M (2 + 2 * i) 3 * M (2 + 2 * j) 4 - M (2 + 2 * i) 4 * M (2 + 2 * j) 3) < 0 then -1 else 1 := rfl
    first | rw [if_neg (by omega)] at hsg | rw [if_pos (by omega)] at hsg
    have k1 : ∀ k, k ≠ 18 → M1 k = M k := fun k hk => by rw [hM1, up2_row _ _ _ _ hk, up2_row _ _ _ _ hk, k0 k hk]
    have g1 : M1 18 1 = cBe (M (2 + 2 * i)) (M (2 + 2 * j)) := by rw [hM1, up2_same]; unfold cBe cTu; rw [hsg]
    have g2 : M1 18 2 = cSA (M (2 + 2 * i)) (M (2 + 2 * j)) := by rw [hM1, up2_ne _ _ _ _ (Or.inr (by omega)), up2_ne _ _ _ _ (Or.inr (by omega)), hM0, up2_same]; unfold cSA; rw [hsg]
    have g3 : M1 18 3 = cSB (M (2 + 2 * i)) (M (2 + 2 * j)) := by rw [hM1, up2_ne _ _ _ _ (Or.inr (by omega)), up2_same]; unfold cSB; rw [hsg]
    have w1 : -80000 ≤ M1 18 1 ∧ M1 18 1 ≤ 80000 := by rw [g1]; unfold cBe cTu; rw [hsg]; omega
    have w2 : -80000 ≤ M1 18 2 ∧ M1 18 2 ≤ 80000 := by rw [g2]; unfold cSA; rw [hsg]; omega
    have w3 : -80000 ≤ M1 18 3 ∧ M1 18 3 ≤ 80000 := by rw [g3]; unfold cSB; rw [hsg]; omega
    clear hM1
    refine ev_aload_n dX1_find_119 rfl ?_
    refine ev_aload_n dX1_find_120 rfl ?_
    refine em_getL fX1_15.g dX1_find_121 lay_18 rfl ?_
    refine ev_lconst0 dX1_find_124 ?_
    refine ev_lcmp_eq 175 dX1_find_125 dX1_find_126 (by omega) (by omega) (fun c125 => ?_) (fun c125 => ?_)
    · refine ev_iconst dX1_find_175 ?_
      refine em_putZ fX1_9 dX1_find_176 lay_18 rfl (by omega) ?_
      exact em_vret dX1_find_179 ⟨rfl, fun k hk => by rw [up2_row _ _ _ _ hk]; exact k1 k hk, by rw [up2_ne _ _ _ _ (Or.inr (by omega))]; exact g1, by rw [up2_ne _ _ _ _ (Or.inr (by omega))]; exact g2, by rw [up2_ne _ _ _ _ (Or.inr (by omega))]; exact g3, by rw [up2_same]; unfold cIs; omega⟩
    · refine ev_aload_n dX1_find_129 rfl ?_
      refine em_getL fX1_36.g dX1_find_130 lay_18 rfl ?_
      refine ev_lconst0 dX1_find_133 ?_
      refine ev_lcmp_lt 175 dX1_find_134 dX1_find_135 (by omega) (by omega) (fun c134 => ?_) (fun c134 => ?_)
      · refine ev_iconst dX1_find_175 ?_
        refine em_putZ fX1_9 dX1_find_176 lay_18 rfl (by omega) ?_
        exact em_vret dX1_find_179 ⟨rfl, fun k hk => by rw [up2_row _ _ _ _ hk]; exact k1 k hk, by rw [up2_ne _ _ _ _ (Or.inr (by omega))]; exact g1, by rw [up2_ne _ _ _ _ (Or.inr (by omega))]; exact g2, by rw [up2_ne _ _ _ _ (Or.inr (by omega))]; exact g3, by rw [up2_same]; unfold cIs; omega⟩
      · refine ev_aload_n dX1_find_138 rfl ?_
        refine em_getL fX1_36.g dX1_find_139 lay_18 rfl ?_
        refine ev_aload_n dX1_find_142 rfl ?_
        refine em_getL fX1_15.g dX1_find_143 lay_18 rfl ?_
        refine ev_lcmp_gt 175 dX1_find_146 dX1_find_147 (by omega) (by omega) (fun c146 => ?_) (fun c146 => ?_)
        · refine ev_iconst dX1_find_175 ?_
          refine em_putZ fX1_9 dX1_find_176 lay_18 rfl (by omega) ?_
          exact em_vret dX1_find_179 ⟨rfl, fun k hk => by rw [up2_row _ _ _ _ hk]; exact k1 k hk, by rw [up2_ne _ _ _ _ (Or.inr (by omega))]; exact g1, by rw [up2_ne _ _ _ _ (Or.inr (by omega))]; exact g2, by rw [up2_ne _ _ _ _ (Or.inr (by omega))]; exact g3, by rw [up2_same]; unfold cIs; omega⟩
        · refine ev_aload_n dX1_find_150 rfl ?_
          refine em_getL fX1_39.g dX1_find_151 lay_18 rfl ?_
          refine ev_lconst0 dX1_find_154 ?_
          refine ev_lcmp_lt 175 dX1_find_155 dX1_find_156 (by omega) (by omega) (fun c155 => ?_) (fun c155 => ?_)
          · refine ev_iconst dX1_find_175 ?_
            refine em_putZ fX1_9 dX1_find_176 lay_18 rfl (by omega) ?_
            exact em_vret dX1_find_179 ⟨rfl, fun k hk => by rw [up2_row _ _ _ _ hk]; exact k1 k hk, by rw [up2_ne _ _ _ _ (Or.inr (by omega))]; exact g1, by rw [up2_ne _ _ _ _ (Or.inr (by omega))]; exact g2, by rw [up2_ne _ _ _ _ (Or.inr (by omega))]; exact g3, by rw [up2_same]; unfold cIs; omega⟩
          · refine ev_aload_n dX1_find_159 rfl ?_
            refine em_getL fX1_39.g dX1_find_160 lay_18 rfl ?_
            refine ev_aload_n dX1_find_163 rfl ?_
            refine em_getL fX1_15.g dX1_find_164 lay_18 rfl ?_
            refine ev_lcmp_gt 175 dX1_find_167 dX1_find_168 (by omega) (by omega) (fun c167 => ?_) (fun c167 => ?_)
            · refine ev_iconst dX1_find_175 ?_
              refine em_putZ fX1_9 dX1_find_176 lay_18 rfl (by omega) ?_
              exact em_vret dX1_find_179 ⟨rfl, fun k hk => by rw [up2_row _ _ _ _ hk]; exact k1 k hk, by rw [up2_ne _ _ _ _ (Or.inr (by omega))]; exact g1, by rw [up2_ne _ _ _ _ (Or.inr (by omega))]; exact g2, by rw [up2_ne _ _ _ _ (Or.inr (by omega))]; exact g3, by rw [up2_same]; unfold cIs; omega⟩
            · refine ev_iconst dX1_find_171 ?_
              refine ev_goto 176 dX1_find_172 ?_
              refine em_putZ fX1_9 dX1_find_176 lay_18 rfl (by omega) ?_
              exact em_vret dX1_find_179 ⟨rfl, fun k hk => by rw [up2_row _ _ _ _ hk]; exact k1 k hk, by rw [up2_ne _ _ _ _ (Or.inr (by omega))]; exact g1, by rw [up2_ne _ _ _ _ (Or.inr (by omega))]; exact g2, by rw [up2_ne _ _ _ _ (Or.inr (by omega))]; exact g3, by rw [up2_same]; unfold cIs; omega⟩
end
section
section TB
variable {l : Launch} {y : MethodName} {cc : ByteArray} {nL : Nat} {rt : Option FieldType} {R : Room} {E : EE} {Z : ZZ} {n0 pc : Nat} {ls : List (Option PV)} {st : List PV} {n ce sl : Nat} {h : HP}
theorem ev_tabIn {dflt lo hi off x : Int} {offs : Array Int} {len : Nat} (tgt : Nat) (hd : decode cc pc = .ok (.tableswitch dflt lo hi offs, len)) (hx : i32 x) (h1 : ¬ x < lo) (h2 : ¬ hi < x) (ho : offs[(x - lo).toNat]? = some off) (k : Ev l y cc nL rt R E Z n0 tgt ls st n ce sl h) (ht : (pc : Int) + off = (tgt : Int) := by decide) : Ev l y cc nL rt R E Z n0 pc ls (vI x :: st) n ce sl h :=
  ev_STP (fun ad C hl k => lv_tableIn C.1 C.2.1 hd (by rw [pm_r32 hx]; exact h1) (by rw [pm_r32 hx]; exact h2) (by rw [pm_r32 hx]; exact ho) ht k) k
theorem ev_tabOut {dflt lo hi x : Int} {offs : Array Int} {len : Nat} (tgt : Nat) (hd : decode cc pc = .ok (.tableswitch dflt lo hi offs, len)) (hx : i32 x) (h1 : x < lo ∨ hi < x) (k : Ev l y cc nL rt R E Z n0 tgt ls st n ce sl h) (ht : (pc : Int) + dflt = (tgt : Int) := by decide) : Ev l y cc nL rt R E Z n0 pc ls (vI x :: st) n ce sl h :=
  ev_STP (fun ad C hl k => lv_tableOut C.1 C.2.1 hd (by rw [pm_r32 hx]; exact h1) ht k) k
end TB
theorem TR.of {M M' : Mem} {t : Nat} (h : TR M t) (h1 : M' (2 + 2 * t) = M (2 + 2 * t)) (h2 : M' (2 + 2 * t + 1) = M (2 + 2 * t + 1)) : TR M' t := by
  unfold TR at *
  rw [h1, h2]
  exact h
def hOK (H : Nat → Int) : Prop := ∀ i, i < 9 → H i = 200000 ∨ (-10000 ≤ H i ∧ H i ≤ 10000)
theorem hV_bd {H : Nat → Int} {sh be : Int} (hH : hOK H) (hb : 0 < be) (h0 : 0 ≤ sh) (h1 : sh ≤ be) (hh : hasH H sh be) : -(10000 * be) ≤ hV H sh be ∧ hV H sh be ≤ 10000 * be := by
  obtain ⟨-, -, -, f4, f5, f6, f7⟩ := h_facts hb h0 h1
  have ha := hH (hI sh be) (by omega)
  have ha1 := hh.1
  by_cases hr : hR sh be = 0
  · rw [hV_0 hr]
    have u1 := Int.mul_le_mul_of_nonneg_right (show H (hI sh be) ≤ 10000 by omega) (show (0 : Int) ≤ be by omega)
    have u2 := Int.mul_le_mul_of_nonneg_right (show -10000 ≤ H (hI sh be) by omega) (show (0 : Int) ≤ be by omega)
    omega
  · have hb2 := hH (hI sh be + 1) (by omega)
    have hb3 := hh.2 hr
    unfold hV
    rw [if_neg hr]
    have u1 := Int.mul_le_mul_of_nonneg_right (show H (hI sh be) ≤ 10000 by omega) (show (0 : Int) ≤ be - hR sh be by omega)
    have u2 := Int.mul_le_mul_of_nonneg_right (show -10000 ≤ H (hI sh be) by omega) (show (0 : Int) ≤ be - hR sh be by omega)
    have u3 := Int.mul_le_mul_of_nonneg_right (show H (hI sh be + 1) ≤ 10000 by omega) f4
    have u4 := Int.mul_le_mul_of_nonneg_right (show -10000 ≤ H (hI sh be + 1) by omega) f4
    omega
theorem ed_bd {a b c : Int} (hb : 0 < b) (h1 : -(c * b) ≤ a) (h2 : a ≤ c * b) : -c ≤ a / b ∧ a / b ≤ c := by
  constructor
  · rw [Int.le_ediv_iff_mul_le hb, Int.neg_mul]; exact h1
  · have := Int.ediv_le_ediv hb h2
    rwa [Int.mul_ediv_cancel _ (show b ≠ 0 by omega)] at this
/-- the DIFFERENCE of two tracks, by their rows -/
def dOK (A B HA HB : Nat → Int) : Prop := A 6 = 0 ∧ B 6 = 0 ∧ cIs A B ∧ hasH HA (cSA A B) (cBe A B) ∧ hasH HB (cSB A B) (cBe A B)
def dV (A B HA HB : Nat → Int) : Int := (10 * (hV HA (cSA A B) (cBe A B) - hV HB (cSB A B) (cBe A B))) / cBe A B
theorem cBe_bd {M : Mem} {i j : Nat} (hA : TR M i) (hB : TR M j) : 0 ≤ cBe (M (2 + 2 * i)) (M (2 + 2 * j)) ∧ cBe (M (2 + 2 * i)) (M (2 + 2 * j)) ≤ 80000 := by
  obtain ⟨a0, a1, a2, a3, a4, a5, a6, -⟩ := hA
  obtain ⟨b0, b1, b2, b3, b4, b5, b6, -⟩ := hB
  have p0 := mb (x := M (2 + 2 * i) 3) (z := M (2 + 2 * j) 4) 200 200 (by omega) (by omega)
  have p1 := mb (x := M (2 + 2 * i) 4) (z := M (2 + 2 * j) 3) 200 200 (by omega) (by omega)
  unfold cBe cSg cTu
  split <;> omega
theorem dV_bd {A B HA HB : Nat → Int} (h1 : hOK HA) (h2 : hOK HB) (h : dOK A B HA HB) (hb : 0 ≤ cBe A B) : -200000 ≤ dV A B HA HB ∧ dV A B HA HB ≤ 200000 := by
  obtain ⟨-, -, ⟨c0, c1, c2, c3, c4⟩, e1, e2⟩ := h
  have u1 := hV_bd h1 (by omega) c1 c2 e1
  have u2 := hV_bd h2 (by omega) c3 c4 e2
  unfold dV
  exact ed_bd (by omega) (by omega) (by omega)
set_option maxRecDepth 100000 in
set_option maxHeartbeats 4000000 in
theorem c_differenceOf (l : Launch) {M : Mem} {i j : Nat} (hi : i < 8) (hj : j < 8) (hA : TR M i) (hB : TR M j) : Cm l yX1_differenceOf cX1_differenceOf 7 (some .int) 1 30 [vR 18, vR (2 + 2 * i), vR (2 + 2 * j)] M (fun r M' => (∀ k, k ≠ 18 → M' k = M k) ∧ ((¬ dOK (M (2 + 2 * i)) (M (2 + 2 * j)) (M (2 + 2 * i + 1)) (M (2 + 2 * j + 1)) ∧ r = some (vI (-1000000002))) ∨ (dOK (M (2 + 2 * i)) (M (2 + 2 * j)) (M (2 + 2 * i + 1)) (M (2 + 2 * j + 1)) ∧ r = some (vI (dV (M (2 + 2 * i)) (M (2 + 2 * j)) (M (2 + 2 * i + 1)) (M (2 + 2 * j + 1))))))) := by
  refine cmo [some (vR 18), some (vR (2 + 2 * i)), some (vR (2 + 2 * j)), none, none, none, none] ?_
  have hA' := hA
  have hB' := hB
  obtain ⟨-, -, -, -, -, -, a6, a7⟩ := hA'
  obtain ⟨-, -, -, -, -, -, b6, b7⟩ := hB'
  have hbe := cBe_bd hA hB
  refine ev_aload_n dX1_differenceOf_0 rfl ?_
  refine em_getI fX1_54.g dX1_differenceOf_1 (lay_trk (i := i) (by omega)) rfl ?_
  refine ev_if_ne 14 dX1_differenceOf_4 (by omega) (fun c4 => ?_) (fun c4 => ?_)
  · refine ev_ldc (-1000000002) kX1_57 dX1_differenceOf_14 (by decide) ?_
    exact em_iret dX1_differenceOf_16 ⟨fun _ _ => rfl, Or.inl ⟨fun q => by have := q.1; have := q.2.1; omega, rfl⟩⟩
  · refine ev_aload_n dX1_differenceOf_7 rfl ?_
    refine em_getI fX1_54.g dX1_differenceOf_8 (lay_trk (i := j) (by omega)) rfl ?_
    refine ev_if_eq 17 dX1_differenceOf_11 (by omega) (fun c11 => ?_) (fun c11 => ?_)
    · refine ev_aload_n dX1_differenceOf_17 rfl ?_
      refine ev_aload_n dX1_differenceOf_18 rfl ?_
      refine ev_aload_n dX1_differenceOf_19 rfl ?_
      refine em_V2 (c_find l (by omega) (by omega) hA hB) mX1_58 dX1_differenceOf_20 lay_18 ?_
      rintro r M1 ⟨rfl, k20, g1, g2, g3, h20⟩
      refine ev_aload_n dX1_differenceOf_23 rfl ?_
      refine em_getI fX1_9.g dX1_differenceOf_24 lay_18 rfl ?_
      refine ev_if_eq 39 dX1_differenceOf_27 (by omega) (fun c27 => ?_) (fun c27 => ?_)
      · refine ev_ldc (-1000000002) kX1_57 dX1_differenceOf_39 (by decide) ?_
        first | exact em_iret dX1_differenceOf_41 ⟨k20, Or.inl ⟨fun q => by rcases h20 with h | h; exact h.2 q.2.2.1; omega, rfl⟩⟩ | (exfalso; rcases h20 with h | h; omega; have := h.2.1; omega)
      · refine ev_aload_n dX1_differenceOf_30 rfl ?_
        refine em_getL fX1_15.g dX1_differenceOf_31 lay_18 rfl ?_
        refine ev_lconst0 dX1_differenceOf_34 ?_
        refine ev_lcmp_gt 42 dX1_differenceOf_35 dX1_differenceOf_36 (by omega) (by omega) (fun c35 => ?_) (fun c35 => ?_)
        · have hcis : cIs (M (2 + 2 * i)) (M (2 + 2 * j)) := by rcases h20 with h | h; omega; exact h.2
          obtain ⟨z0, z1, z2, z3, z4⟩ := id hcis
          have e1 := k20 (2 + 2 * i) (by omega)
          have e2 := k20 (2 + 2 * i + 1) (by omega)
          have e3 := k20 (2 + 2 * j) (by omega)
          have e4 := k20 (2 + 2 * j + 1) (by omega)
          have hA2 : TR M1 i := hA.of e1 e2
          have hB2 : TR M1 j := hB.of e3 e4
          refine ev_aload_n dX1_differenceOf_42 rfl ?_
          refine ev_aload_n dX1_differenceOf_43 rfl ?_
          refine em_getL fX1_36.g dX1_differenceOf_44 lay_18 rfl ?_
          refine ev_aload_n dX1_differenceOf_47 rfl ?_
          refine em_getL fX1_15.g dX1_differenceOf_48 lay_18 rfl ?_
          refine em_V2 (c_htb l (by omega) hA2 (by omega) (by omega) (by omega) (by omega)) mX1_48 dX1_differenceOf_51 (lay_trk (i := i) (by omega)) ?_
          rintro r M2 ⟨rfl, ⟨n51, rfl⟩ | ⟨y51, rfl⟩⟩
          · (first | (rw [e2, g2, g1] at n51) | (rw [e2, g2, g1] at y51 ⊢))
            refine ev_lstore_n dX1_differenceOf_54 (by decide) ?_
            refine ev_ls [some (vR _), some (vR _), some (vR _), some (vL _), none, none, none] rfl ?_
            refine ev_aload_n dX1_differenceOf_55 rfl ?_
            refine ev_aload_n dX1_differenceOf_56 rfl ?_
            refine em_getL fX1_39.g dX1_differenceOf_57 lay_18 rfl ?_
            refine ev_aload_n dX1_differenceOf_60 rfl ?_
            refine em_getL fX1_15.g dX1_differenceOf_61 lay_18 rfl ?_
            refine em_V2 (c_htb l (by omega) hB2 (by omega) (by omega) (by omega) (by omega)) mX1_48 dX1_differenceOf_64 (lay_trk (i := j) (by omega)) ?_
            rintro r M3 ⟨rfl, ⟨n64, rfl⟩ | ⟨y64, rfl⟩⟩
            · (first | (rw [e4, g3, g1] at n64) | (rw [e4, g3, g1] at y64 ⊢))
              refine ev_lstore dX1_differenceOf_67 (by decide) ?_
              refine ev_ls [some (vR _), some (vR _), some (vR _), some (vL _), none, some (vL _), none] rfl ?_
              have q1 : hasH (M (2 + 2 * i + 1)) (cSA (M (2 + 2 * i)) (M (2 + 2 * j))) (cBe (M (2 + 2 * i)) (M (2 + 2 * j))) → -(10000 * cBe (M (2 + 2 * i)) (M (2 + 2 * j))) ≤ hV (M (2 + 2 * i + 1)) (cSA (M (2 + 2 * i)) (M (2 + 2 * j))) (cBe (M (2 + 2 * i)) (M (2 + 2 * j))) ∧ hV (M (2 + 2 * i + 1)) (cSA (M (2 + 2 * i)) (M (2 + 2 * j))) (cBe (M (2 + 2 * i)) (M (2 + 2 * j))) ≤ 10000 * cBe (M (2 + 2 * i)) (M (2 + 2 * j)) := fun q => hV_bd a7 (by omega) (by omega) (by omega) q
              have q2 : hasH (M (2 + 2 * j + 1)) (cSB (M (2 + 2 * i)) (M (2 + 2 * j))) (cBe (M (2 + 2 * i)) (M (2 + 2 * j))) → -(10000 * cBe (M (2 + 2 * i)) (M (2 + 2 * j))) ≤ hV (M (2 + 2 * j + 1)) (cSB (M (2 + 2 * i)) (M (2 + 2 * j))) (cBe (M (2 + 2 * i)) (M (2 + 2 * j))) ∧ hV (M (2 + 2 * j + 1)) (cSB (M (2 + 2 * i)) (M (2 + 2 * j))) (cBe (M (2 + 2 * i)) (M (2 + 2 * j))) ≤ 10000 * cBe (M (2 + 2 * i)) (M (2 + 2 * j)) := fun q => hV_bd b7 (by omega) (by omega) (by omega) q
              try replace q1 := q1 y51
              try replace q2 := q2 y64
              refine ev_lload_n dX1_differenceOf_69 rfl ?_
              refine ev_ldc2 (-1000000000000000000) kX1_52 dX1_differenceOf_70 (by decide) ?_
              refine ev_lcmp_eq 86 dX1_differenceOf_73 dX1_differenceOf_74 (by omega) (by omega) (fun c73 => ?_) (fun c73 => ?_)
              · refine ev_ldc (-1000000002) kX1_57 dX1_differenceOf_86 (by decide) ?_
                first | exact em_iret dX1_differenceOf_88 ⟨k20, Or.inl ⟨fun q => n51 q.2.2.2.1, rfl⟩⟩ | exact em_iret dX1_differenceOf_88 ⟨k20, Or.inl ⟨fun q => n64 q.2.2.2.2, rfl⟩⟩ | (exfalso; omega)
              · refine ev_lload dX1_differenceOf_77 rfl ?_
                refine ev_ldc2 (-1000000000000000000) kX1_52 dX1_differenceOf_79 (by decide) ?_
                refine ev_lcmp_ne 89 dX1_differenceOf_82 dX1_differenceOf_83 (by omega) (by omega) (fun c82 => ?_) (fun c82 => ?_)
                · refine ev_ldc2 (10) kX1_62 dX1_differenceOf_89 (by decide) ?_
                  refine ev_lload_n dX1_differenceOf_92 rfl ?_
                  refine ev_lload dX1_differenceOf_93 rfl ?_
                  refine ev_lsub dX1_differenceOf_95 ?_
                  refine ev_lmul dX1_differenceOf_96 ?_
                  refine ev_aload_n dX1_differenceOf_97 rfl ?_
                  refine em_getL fX1_15.g dX1_differenceOf_98 lay_18 rfl ?_
                  rw [g1]
                  refine em_S2 (c_fdL l _ (by omega) (by omega) (by omega)) mX1_64 dX1_differenceOf_101 ?_
                  rintro r M ⟨rfl, rfl⟩
                  refine ev_l2i dX1_differenceOf_104 ?_
                  first | exact em_iret dX1_differenceOf_105 ⟨k20, Or.inr ⟨⟨by omega, by omega, hcis, y51, y64⟩, rfl⟩⟩ | (exfalso; omega)
                · refine ev_ldc (-1000000002) kX1_57 dX1_differenceOf_86 (by decide) ?_
                  first | exact em_iret dX1_differenceOf_88 ⟨k20, Or.inl ⟨fun q => n51 q.2.2.2.1, rfl⟩⟩ | exact em_iret dX1_differenceOf_88 ⟨k20, Or.inl ⟨fun q => n64 q.2.2.2.2, rfl⟩⟩ | (exfalso; omega)
            · (first | (rw [e4, g3, g1] at n64) | (rw [e4, g3, g1] at y64 ⊢))
              refine ev_lstore dX1_differenceOf_67 (by decide) ?_
              refine ev_ls [some (vR _), some (vR _), some (vR _), some (vL _), none, some (vL _), none] rfl ?_
              have q1 : hasH (M (2 + 2 * i + 1)) (cSA (M (2 + 2 * i)) (M (2 + 2 * j))) (cBe (M (2 + 2 * i)) (M (2 + 2 * j))) → -(10000 * cBe (M (2 + 2 * i)) (M (2 + 2 * j))) ≤ hV (M (2 + 2 * i + 1)) (cSA (M (2 + 2 * i)) (M (2 + 2 * j))) (cBe (M (2 + 2 * i)) (M (2 + 2 * j))) ∧ hV (M (2 + 2 * i + 1)) (cSA (M (2 + 2 * i)) (M (2 + 2 * j))) (cBe (M (2 + 2 * i)) (M (2 + 2 * j))) ≤ 10000 * cBe (M (2 + 2 * i)) (M (2 + 2 * j)) := fun q => hV_bd a7 (by omega) (by omega) (by omega) q
              have q2 : hasH (M (2 + 2 * j + 1)) (cSB (M (2 + 2 * i)) (M (2 + 2 * j))) (cBe (M (2 + 2 * i)) (M (2 + 2 * j))) → -(10000 * cBe (M (2 + 2 * i)) (M (2 + 2 * j))) ≤ hV (M (2 + 2 * j + 1)) (cSB (M (2 + 2 * i)) (M (2 + 2 * j))) (cBe (M (2 + 2 * i)) (M (2 + 2 * j))) ∧ hV (M (2 + 2 * j + 1)) (cSB (M (2 + 2 * i)) (M (2 + 2 * j))) (cBe (M (2 + 2 * i)) (M (2 + 2 * j))) ≤ 10000 * cBe (M (2 + 2 * i)) (M (2 + 2 * j)) := fun q => hV_bd b7 (by omega) (by omega) (by omega) q
              try replace q1 := q1 y51
              try replace q2 := q2 y64
              refine ev_lload_n dX1_differenceOf_69 rfl ?_
              refine ev_ldc2 (-1000000000000000000) kX1_52 dX1_differenceOf_70 (by decide) ?_
              refine ev_lcmp_eq 86 dX1_differenceOf_73 dX1_differenceOf_74 (by omega) (by omega) (fun c73 => ?_) (fun c73 => ?_)
              · refine ev_ldc (-1000000002) kX1_57 dX1_differenceOf_86 (by decide) ?_
                first | exact em_iret dX1_differenceOf_88 ⟨k20, Or.inl ⟨fun q => n51 q.2.2.2.1, rfl⟩⟩ | exact em_iret dX1_differenceOf_88 ⟨k20, Or.inl ⟨fun q => n64 q.2.2.2.2, rfl⟩⟩ | (exfalso; omega)
              · refine ev_lload dX1_differenceOf_77 rfl ?_
                refine ev_ldc2 (-1000000000000000000) kX1_52 dX1_differenceOf_79 (by decide) ?_
                refine ev_lcmp_ne 89 dX1_differenceOf_82 dX1_differenceOf_83 (by omega) (by omega) (fun c82 => ?_) (fun c82 => ?_)
                · refine ev_ldc2 (10) kX1_62 dX1_differenceOf_89 (by decide) ?_
                  refine ev_lload_n dX1_differenceOf_92 rfl ?_
                  refine ev_lload dX1_differenceOf_93 rfl ?_
                  refine ev_lsub dX1_differenceOf_95 ?_
                  refine ev_lmul dX1_differenceOf_96 ?_
                  refine ev_aload_n dX1_differenceOf_97 rfl ?_
                  refine em_getL fX1_15.g dX1_differenceOf_98 lay_18 rfl ?_
                  rw [g1]
                  refine em_S2 (c_fdL l _ (by omega) (by omega) (by omega)) mX1_64 dX1_differenceOf_101 ?_
                  rintro r M ⟨rfl, rfl⟩
                  refine ev_l2i dX1_differenceOf_104 ?_
                  first | exact em_iret dX1_differenceOf_105 ⟨k20, Or.inr ⟨⟨by omega, by omega, hcis, y51, y64⟩, rfl⟩⟩ | (exfalso; omega)
                · refine ev_ldc (-1000000002) kX1_57 dX1_differenceOf_86 (by decide) ?_
                  first | exact em_iret dX1_differenceOf_88 ⟨k20, Or.inl ⟨fun q => n51 q.2.2.2.1, rfl⟩⟩ | exact em_iret dX1_differenceOf_88 ⟨k20, Or.inl ⟨fun q => n64 q.2.2.2.2, rfl⟩⟩ | (exfalso; omega)
          · (first | (rw [e2, g2, g1] at n51) | (rw [e2, g2, g1] at y51 ⊢))
            refine ev_lstore_n dX1_differenceOf_54 (by decide) ?_
            refine ev_ls [some (vR _), some (vR _), some (vR _), some (vL _), none, none, none] rfl ?_
            refine ev_aload_n dX1_differenceOf_55 rfl ?_
            refine ev_aload_n dX1_differenceOf_56 rfl ?_
            refine em_getL fX1_39.g dX1_differenceOf_57 lay_18 rfl ?_
            refine ev_aload_n dX1_differenceOf_60 rfl ?_
            refine em_getL fX1_15.g dX1_differenceOf_61 lay_18 rfl ?_
            refine em_V2 (c_htb l (by omega) hB2 (by omega) (by omega) (by omega) (by omega)) mX1_48 dX1_differenceOf_64 (lay_trk (i := j) (by omega)) ?_
            rintro r M3 ⟨rfl, ⟨n64, rfl⟩ | ⟨y64, rfl⟩⟩
            · (first | (rw [e4, g3, g1] at n64) | (rw [e4, g3, g1] at y64 ⊢))
              refine ev_lstore dX1_differenceOf_67 (by decide) ?_
              refine ev_ls [some (vR _), some (vR _), some (vR _), some (vL _), none, some (vL _), none] rfl ?_
              have q1 : hasH (M (2 + 2 * i + 1)) (cSA (M (2 + 2 * i)) (M (2 + 2 * j))) (cBe (M (2 + 2 * i)) (M (2 + 2 * j))) → -(10000 * cBe (M (2 + 2 * i)) (M (2 + 2 * j))) ≤ hV (M (2 + 2 * i + 1)) (cSA (M (2 + 2 * i)) (M (2 + 2 * j))) (cBe (M (2 + 2 * i)) (M (2 + 2 * j))) ∧ hV (M (2 + 2 * i + 1)) (cSA (M (2 + 2 * i)) (M (2 + 2 * j))) (cBe (M (2 + 2 * i)) (M (2 + 2 * j))) ≤ 10000 * cBe (M (2 + 2 * i)) (M (2 + 2 * j)) := fun q => hV_bd a7 (by omega) (by omega) (by omega) q
              have q2 : hasH (M (2 + 2 * j + 1)) (cSB (M (2 + 2 * i)) (M (2 + 2 * j))) (cBe (M (2 + 2 * i)) (M (2 + 2 * j))) → -(10000 * cBe (M (2 + 2 * i)) (M (2 + 2 * j))) ≤ hV (M (2 + 2 * j + 1)) (cSB (M (2 + 2 * i)) (M (2 + 2 * j))) (cBe (M (2 + 2 * i)) (M (2 + 2 * j))) ∧ hV (M (2 + 2 * j + 1)) (cSB (M (2 + 2 * i)) (M (2 + 2 * j))) (cBe (M (2 + 2 * i)) (M (2 + 2 * j))) ≤ 10000 * cBe (M (2 + 2 * i)) (M (2 + 2 * j)) := fun q => hV_bd b7 (by omega) (by omega) (by omega) q
              try replace q1 := q1 y51
              try replace q2 := q2 y64
              refine ev_lload_n dX1_differenceOf_69 rfl ?_
              refine ev_ldc2 (-1000000000000000000) kX1_52 dX1_differenceOf_70 (by decide) ?_
              refine ev_lcmp_eq 86 dX1_differenceOf_73 dX1_differenceOf_74 (by omega) (by omega) (fun c73 => ?_) (fun c73 => ?_)
              · refine ev_ldc (-1000000002) kX1_57 dX1_differenceOf_86 (by decide) ?_
                first | exact em_iret dX1_differenceOf_88 ⟨k20, Or.inl ⟨fun q => n51 q.2.2.2.1, rfl⟩⟩ | exact em_iret dX1_differenceOf_88 ⟨k20, Or.inl ⟨fun q => n64 q.2.2.2.2, rfl⟩⟩ | (exfalso; omega)
              · refine ev_lload dX1_differenceOf_77 rfl ?_
                refine ev_ldc2 (-1000000000000000000) kX1_52 dX1_differenceOf_79 (by decide) ?_
                refine ev_lcmp_ne 89 dX1_differenceOf_82 dX1_differenceOf_83 (by omega) (by omega) (fun c82 => ?_) (fun c82 => ?_)
                · refine ev_ldc2 (10) kX1_62 dX1_differenceOf_89 (by decide) ?_
                  refine ev_lload_n dX1_differenceOf_92 rfl ?_
                  refine ev_lload dX1_differenceOf_93 rfl ?_
                  refine ev_lsub dX1_differenceOf_95 ?_
                  refine ev_lmul dX1_differenceOf_96 ?_
                  refine ev_aload_n dX1_differenceOf_97 rfl ?_
                  refine em_getL fX1_15.g dX1_differenceOf_98 lay_18 rfl ?_
                  rw [g1]
                  refine em_S2 (c_fdL l _ (by omega) (by omega) (by omega)) mX1_64 dX1_differenceOf_101 ?_
                  rintro r M ⟨rfl, rfl⟩
                  refine ev_l2i dX1_differenceOf_104 ?_
                  first | exact em_iret dX1_differenceOf_105 ⟨k20, Or.inr ⟨⟨by omega, by omega, hcis, y51, y64⟩, rfl⟩⟩ | (exfalso; omega)
                · refine ev_ldc (-1000000002) kX1_57 dX1_differenceOf_86 (by decide) ?_
                  first | exact em_iret dX1_differenceOf_88 ⟨k20, Or.inl ⟨fun q => n51 q.2.2.2.1, rfl⟩⟩ | exact em_iret dX1_differenceOf_88 ⟨k20, Or.inl ⟨fun q => n64 q.2.2.2.2, rfl⟩⟩ | (exfalso; omega)
            · (first | (rw [e4, g3, g1] at n64) | (rw [e4, g3, g1] at y64 ⊢))
              refine ev_lstore dX1_differenceOf_67 (by decide) ?_
              refine ev_ls [some (vR _), some (vR _), some (vR _), some (vL _), none, some (vL _), none] rfl ?_
              have q1 : hasH (M (2 + 2 * i + 1)) (cSA (M (2 + 2 * i)) (M (2 + 2 * j))) (cBe (M (2 + 2 * i)) (M (2 + 2 * j))) → -(10000 * cBe (M (2 + 2 * i)) (M (2 + 2 * j))) ≤ hV (M (2 + 2 * i + 1)) (cSA (M (2 + 2 * i)) (M (2 + 2 * j))) (cBe (M (2 + 2 * i)) (M (2 + 2 * j))) ∧ hV (M (2 + 2 * i + 1)) (cSA (M (2 + 2 * i)) (M (2 + 2 * j))) (cBe (M (2 + 2 * i)) (M (2 + 2 * j))) ≤ 10000 * cBe (M (2 + 2 * i)) (M (2 + 2 * j)) := fun q => hV_bd a7 (by omega) (by omega) (by omega) q
              have q2 : hasH (M (2 + 2 * j + 1)) (cSB (M (2 + 2 * i)) (M (2 + 2 * j))) (cBe (M (2 + 2 * i)) (M (2 + 2 * j))) → -(10000 * cBe (M (2 + 2 * i)) (M (2 + 2 * j))) ≤ hV (M (2 + 2 * j + 1)) (cSB (M (2 + 2 * i)) (M (2 + 2 * j))) (cBe (M (2 + 2 * i)) (M (2 + 2 * j))) ∧ hV (M (2 + 2 * j + 1)) (cSB (M (2 + 2 * i)) (M (2 + 2 * j))) (cBe (M (2 + 2 * i)) (M (2 + 2 * j))) ≤ 10000 * cBe (M (2 + 2 * i)) (M (2 + 2 * j)) := fun q => hV_bd b7 (by omega) (by omega) (by omega) q
              try replace q1 := q1 y51
              try replace q2 := q2 y64
              refine ev_lload_n dX1_differenceOf_69 rfl ?_
              refine ev_ldc2 (-1000000000000000000) kX1_52 dX1_differenceOf_70 (by decide) ?_
              refine ev_lcmp_eq 86 dX1_differenceOf_73 dX1_differenceOf_74 (by omega) (by omega) (fun c73 => ?_) (fun c73 => ?_)
              · refine ev_ldc (-1000000002) kX1_57 dX1_differenceOf_86 (by decide) ?_
                first | exact em_iret dX1_differenceOf_88 ⟨k20, Or.inl ⟨fun q => n51 q.2.2.2.1, rfl⟩⟩ | exact em_iret dX1_differenceOf_88 ⟨k20, Or.inl ⟨fun q => n64 q.2.2.2.2, rfl⟩⟩ | (exfalso; omega)
              · refine ev_lload dX1_differenceOf_77 rfl ?_
                refine ev_ldc2 (-1000000000000000000) kX1_52 dX1_differenceOf_79 (by decide) ?_
                refine ev_lcmp_ne 89 dX1_differenceOf_82 dX1_differenceOf_83 (by omega) (by omega) (fun c82 => ?_) (fun c82 => ?_)
                · refine ev_ldc2 (10) kX1_62 dX1_differenceOf_89 (by decide) ?_
                  refine ev_lload_n dX1_differenceOf_92 rfl ?_
                  refine ev_lload dX1_differenceOf_93 rfl ?_
                  refine ev_lsub dX1_differenceOf_95 ?_
                  refine ev_lmul dX1_differenceOf_96 ?_
                  refine ev_aload_n dX1_differenceOf_97 rfl ?_
                  refine em_getL fX1_15.g dX1_differenceOf_98 lay_18 rfl ?_
                  rw [g1]
                  refine em_S2 (c_fdL l _ (by omega) (by omega) (by omega)) mX1_64 dX1_differenceOf_101 ?_
                  rintro r M ⟨rfl, rfl⟩
                  refine ev_l2i dX1_differenceOf_104 ?_
                  first | exact em_iret dX1_differenceOf_105 ⟨k20, Or.inr ⟨⟨by omega, by omega, hcis, y51, y64⟩, rfl⟩⟩ | (exfalso; omega)
                · refine ev_ldc (-1000000002) kX1_57 dX1_differenceOf_86 (by decide) ?_
                  first | exact em_iret dX1_differenceOf_88 ⟨k20, Or.inl ⟨fun q => n51 q.2.2.2.1, rfl⟩⟩ | exact em_iret dX1_differenceOf_88 ⟨k20, Or.inl ⟨fun q => n64 q.2.2.2.2, rfl⟩⟩ | (exfalso; omega)
        · refine ev_ldc (-1000000002) kX1_57 dX1_differenceOf_39 (by decide) ?_
          first | exact em_iret dX1_differenceOf_41 ⟨k20, Or.inl ⟨fun q => by rcases h20 with h | h; exact h.2 q.2.2.1; omega, rfl⟩⟩ | (exfalso; rcases h20 with h | h; omega; have := h.2.1; omega)
    · refine ev_ldc (-1000000002) kX1_57 dX1_differenceOf_14 (by decide) ?_
      exact em_iret dX1_differenceOf_16 ⟨fun _ _ => rfl, Or.inl ⟨fun q => by have := q.1; have := q.2.1; omega, rfl⟩⟩
end
section
def abv (A B HA HB : Nat → Int) (be sa sb w : Int) : Int := if w = 0 then A 0 * be + A 3 * sa else if w = 1 then A 1 * be + A 4 * sa else if w = 2 then A 2 * be + A 5 * sa else if w = 3 then B 2 * be + B 5 * sb else if w = 4 then sa else if w = 5 then sb else if w = 6 then hV HA sa be else hV HB sb be
abbrev inB (A H : Nat → Int) (w bi bj : Int) (k : Nat) : Prop := H k ≠ 200000 ∧ (8 * A 0 + A 3 * (k : Int)) / (8 * w) = bi ∧ (8 * A 1 + A 4 * (k : Int)) / (8 * w) = bj
def cntB (A H : Nat → Int) (w bi bj : Int) : Nat → Int
  | 0 => 0
  | n + 1 => cntB A H w bi bj n + (if inB A H w bi bj n then 1 else 0)
def sumB (A H : Nat → Int) (w bi bj : Int) : Nat → Int
  | 0 => 0
  | n + 1 => sumB A H w bi bj n + (if inB A H w bi bj n then H n else 0)
theorem cntB_bd (A H : Nat → Int) (w bi bj : Int) : ∀ n : Nat, 0 ≤ cntB A H w bi bj n ∧ cntB A H w bi bj n ≤ n
  | 0 => ⟨Int.le_refl _, Int.le_refl _⟩
  | n + 1 => by
    have := cntB_bd A H w bi bj n
    show 0 ≤ cntB A H w bi bj n + _ ∧ cntB A H w bi bj n + _ ≤ _
    split <;> omega
theorem sumB_bd {A H : Nat → Int} (hH : hOK H) (w bi bj : Int) : ∀ n : Nat, n ≤ 9 → -(10000 * (n : Int)) ≤ sumB A H w bi bj n ∧ sumB A H w bi bj n ≤ 10000 * (n : Int)
  | 0, _ => ⟨Int.le_refl _, Int.le_refl _⟩
  | n + 1, hn => by
    have := sumB_bd (A := A) hH w bi bj n (by omega)
    have h1 := hH n (by omega)
    show -(10000 * ((n + 1 : Nat) : Int)) ≤ sumB A H w bi bj n + _ ∧ sumB A H w bi bj n + _ ≤ 10000 * ((n + 1 : Nat) : Int)
    split
    · rename_i q
      have := q.1
      omega
    · omega
def dst (p r : Int) : Int := min (r % p) (p - r % p)
set_option maxRecDepth 100000 in
set_option maxHeartbeats 4000000 in
theorem c_aboveOf (l : Launch) {M : Mem} {i j : Nat} {w : Int} (hi : i < 8) (hj : j < 8) (hA : TR M i) (hB : TR M j) (hw : 0 ≤ w ∧ w ≤ 7) (h1 : 0 < M 18 1 ∧ M 18 1 ≤ 80000) (h2 : 0 ≤ M 18 2 ∧ M 18 2 ≤ M 18 1) (h3 : 0 ≤ M 18 3 ∧ M 18 3 ≤ M 18 1) : Cm l yX1_aboveOf cX1_aboveOf 4 (some .long) 1 27 [vR 18, vI w, vR (2 + 2 * i), vR (2 + 2 * j)] M (fun r M' => M' = M ∧ ((((w = 6 ∧ ¬ hasH (M (2 + 2 * i + 1)) (M 18 2) (M 18 1)) ∨ (w = 7 ∧ ¬ hasH (M (2 + 2 * j + 1)) (M 18 3) (M 18 1))) ∧ r = some (vL (-1000000000000000000))) ∨ (¬ ((w = 6 ∧ ¬ hasH (M (2 + 2 * i + 1)) (M 18 2) (M 18 1)) ∨ (w = 7 ∧ ¬ hasH (M (2 + 2 * j + 1)) (M 18 3) (M 18 1))) ∧ r = some (vL (abv (M (2 + 2 * i)) (M (2 + 2 * j)) (M (2 + 2 * i + 1)) (M (2 + 2 * j + 1)) (M 18 1) (M 18 2) (M 18 3) w))))) := by
  refine cmo [some (vR 18), some (vI w), some (vR (2 + 2 * i)), some (vR (2 + 2 * j))] ?_
  obtain ⟨a0, a1, a2, a3, a4, a5, a6, a7⟩ := id hA
  obtain ⟨b0, b1, b2, b3, b4, b5, b6, b7⟩ := id hB
  rcases (show w = 0 ∨ w = 1 ∨ w = 2 ∨ w = 3 ∨ w = 4 ∨ w = 5 ∨ w = 6 ∨ w = 7 by omega) with rfl | rfl | rfl | rfl | rfl | rfl | rfl | rfl
  · refine ev_iload_n dX1_aboveOf_0 rfl ?_
    refine ev_tabIn 48 dX1_aboveOf_1 (by omega) (by omega) (by omega) rfl ?_
    refine ev_aload_n dX1_aboveOf_48 rfl ?_
    refine em_getI fX1_30.g dX1_aboveOf_49 (lay_trk (i := i) (by omega)) rfl ?_
    refine ev_i2l dX1_aboveOf_52 (by omega) ?_
    refine ev_aload_n dX1_aboveOf_53 rfl ?_
    refine em_getL fX1_15.g dX1_aboveOf_54 lay_18 rfl ?_
    refine ev_lmul dX1_aboveOf_57 ?_
    refine ev_aload_n dX1_aboveOf_58 rfl ?_
    refine em_getI fX1_19.g dX1_aboveOf_59 (lay_trk (i := i) (by omega)) rfl ?_
    refine ev_i2l dX1_aboveOf_62 (by omega) ?_
    refine ev_aload_n dX1_aboveOf_63 rfl ?_
    refine em_getL fX1_36.g dX1_aboveOf_64 lay_18 rfl ?_
    refine ev_lmul dX1_aboveOf_67 ?_
    refine ev_ladd dX1_aboveOf_68 ?_
    exact em_lret dX1_aboveOf_69 ⟨rfl, Or.inr ⟨by omega, rfl⟩⟩
  · refine ev_iload_n dX1_aboveOf_0 rfl ?_
    refine ev_tabIn 70 dX1_aboveOf_1 (by omega) (by omega) (by omega) rfl ?_
    refine ev_aload_n dX1_aboveOf_70 rfl ?_
    refine em_getI fX1_33.g dX1_aboveOf_71 (lay_trk (i := i) (by omega)) rfl ?_
    refine ev_i2l dX1_aboveOf_74 (by omega) ?_
    refine ev_aload_n dX1_aboveOf_75 rfl ?_
    refine em_getL fX1_15.g dX1_aboveOf_76 lay_18 rfl ?_
    refine ev_lmul dX1_aboveOf_79 ?_
    refine ev_aload_n dX1_aboveOf_80 rfl ?_
    refine em_getI fX1_25.g dX1_aboveOf_81 (lay_trk (i := i) (by omega)) rfl ?_
    refine ev_i2l dX1_aboveOf_84 (by omega) ?_
    refine ev_aload_n dX1_aboveOf_85 rfl ?_
    refine em_getL fX1_36.g dX1_aboveOf_86 lay_18 rfl ?_
    refine ev_lmul dX1_aboveOf_89 ?_
    refine ev_ladd dX1_aboveOf_90 ?_
    exact em_lret dX1_aboveOf_91 ⟨rfl, Or.inr ⟨by omega, rfl⟩⟩
  · refine ev_iload_n dX1_aboveOf_0 rfl ?_
    refine ev_tabIn 92 dX1_aboveOf_1 (by omega) (by omega) (by omega) rfl ?_
    refine ev_aload_n dX1_aboveOf_92 rfl ?_
    refine em_getI fX1_42.g dX1_aboveOf_93 (lay_trk (i := i) (by omega)) rfl ?_
    refine ev_i2l dX1_aboveOf_96 (by omega) ?_
    refine ev_aload_n dX1_aboveOf_97 rfl ?_
    refine em_getL fX1_15.g dX1_aboveOf_98 lay_18 rfl ?_
    refine ev_lmul dX1_aboveOf_101 ?_
    refine ev_aload_n dX1_aboveOf_102 rfl ?_
    refine em_getI fX1_45.g dX1_aboveOf_103 (lay_trk (i := i) (by omega)) rfl ?_
    refine ev_i2l dX1_aboveOf_106 (by omega) ?_
    refine ev_aload_n dX1_aboveOf_107 rfl ?_
    refine em_getL fX1_36.g dX1_aboveOf_108 lay_18 rfl ?_
    refine ev_lmul dX1_aboveOf_111 ?_
    refine ev_ladd dX1_aboveOf_112 ?_
    exact em_lret dX1_aboveOf_113 ⟨rfl, Or.inr ⟨by omega, rfl⟩⟩
  · refine ev_iload_n dX1_aboveOf_0 rfl ?_
    refine ev_tabIn 114 dX1_aboveOf_1 (by omega) (by omega) (by omega) rfl ?_
    refine ev_aload_n dX1_aboveOf_114 rfl ?_
    refine em_getI fX1_42.g dX1_aboveOf_115 (lay_trk (i := j) (by omega)) rfl ?_
    refine ev_i2l dX1_aboveOf_118 (by omega) ?_
    refine ev_aload_n dX1_aboveOf_119 rfl ?_
    refine em_getL fX1_15.g dX1_aboveOf_120 lay_18 rfl ?_
    refine ev_lmul dX1_aboveOf_123 ?_
    refine ev_aload_n dX1_aboveOf_124 rfl ?_
    refine em_getI fX1_45.g dX1_aboveOf_125 (lay_trk (i := j) (by omega)) rfl ?_
    refine ev_i2l dX1_aboveOf_128 (by omega) ?_
    refine ev_aload_n dX1_aboveOf_129 rfl ?_
    refine em_getL fX1_39.g dX1_aboveOf_130 lay_18 rfl ?_
    refine ev_lmul dX1_aboveOf_133 ?_
    refine ev_ladd dX1_aboveOf_134 ?_
    exact em_lret dX1_aboveOf_135 ⟨rfl, Or.inr ⟨by omega, rfl⟩⟩
  · refine ev_iload_n dX1_aboveOf_0 rfl ?_
    refine ev_tabIn 136 dX1_aboveOf_1 (by omega) (by omega) (by omega) rfl ?_
    refine ev_aload_n dX1_aboveOf_136 rfl ?_
    refine em_getL fX1_36.g dX1_aboveOf_137 lay_18 rfl ?_
    exact em_lret dX1_aboveOf_140 ⟨rfl, Or.inr ⟨by omega, rfl⟩⟩
  · refine ev_iload_n dX1_aboveOf_0 rfl ?_
    refine ev_tabIn 141 dX1_aboveOf_1 (by omega) (by omega) (by omega) rfl ?_
    refine ev_aload_n dX1_aboveOf_141 rfl ?_
    refine em_getL fX1_39.g dX1_aboveOf_142 lay_18 rfl ?_
    exact em_lret dX1_aboveOf_145 ⟨rfl, Or.inr ⟨by omega, rfl⟩⟩
  · refine ev_iload_n dX1_aboveOf_0 rfl ?_
    refine ev_tabIn 146 dX1_aboveOf_1 (by omega) (by omega) (by omega) rfl ?_
    refine ev_aload_n dX1_aboveOf_146 rfl ?_
    refine ev_aload_n dX1_aboveOf_147 rfl ?_
    refine em_getL fX1_36.g dX1_aboveOf_148 lay_18 rfl ?_
    refine ev_aload_n dX1_aboveOf_151 rfl ?_
    refine em_getL fX1_15.g dX1_aboveOf_152 lay_18 rfl ?_
    refine em_V2 (c_htb l (by omega) hA (by omega) (by omega) (by omega) (by omega)) mX1_48 dX1_aboveOf_155 (lay_trk (i := i) (by omega)) ?_
    rintro r M ⟨rfl, ⟨nq, rfl⟩ | ⟨yq, rfl⟩⟩
    · first | exact em_lret dX1_aboveOf_158 ⟨rfl, Or.inl ⟨Or.inl ⟨rfl, nq⟩, rfl⟩⟩ | exact em_lret dX1_aboveOf_158 ⟨rfl, Or.inr ⟨fun q => by rcases q with q | q; exact q.2 yq; omega, rfl⟩⟩
    · first | exact em_lret dX1_aboveOf_158 ⟨rfl, Or.inl ⟨Or.inl ⟨rfl, nq⟩, rfl⟩⟩ | exact em_lret dX1_aboveOf_158 ⟨rfl, Or.inr ⟨fun q => by rcases q with q | q; exact q.2 yq; omega, rfl⟩⟩
  · refine ev_iload_n dX1_aboveOf_0 rfl ?_
    refine ev_tabIn 159 dX1_aboveOf_1 (by omega) (by omega) (by omega) rfl ?_
    refine ev_aload_n dX1_aboveOf_159 rfl ?_
    refine ev_aload_n dX1_aboveOf_160 rfl ?_
    refine em_getL fX1_39.g dX1_aboveOf_161 lay_18 rfl ?_
    refine ev_aload_n dX1_aboveOf_164 rfl ?_
    refine em_getL fX1_15.g dX1_aboveOf_165 lay_18 rfl ?_
    refine em_V2 (c_htb l (by omega) hB (by omega) (by omega) (by omega) (by omega)) mX1_48 dX1_aboveOf_168 (lay_trk (i := j) (by omega)) ?_
    rintro r M ⟨rfl, ⟨nq, rfl⟩ | ⟨yq, rfl⟩⟩
    · first | exact em_lret dX1_aboveOf_171 ⟨rfl, Or.inl ⟨Or.inr ⟨rfl, nq⟩, rfl⟩⟩ | exact em_lret dX1_aboveOf_171 ⟨rfl, Or.inr ⟨fun q => by rcases q with q | q; omega; exact q.2 yq, rfl⟩⟩
    · first | exact em_lret dX1_aboveOf_171 ⟨rfl, Or.inl ⟨Or.inr ⟨rfl, nq⟩, rfl⟩⟩ | exact em_lret dX1_aboveOf_171 ⟨rfl, Or.inr ⟨fun q => by rcases q with q | q; omega; exact q.2 yq, rfl⟩⟩
set_option maxRecDepth 100000 in
set_option maxHeartbeats 4000000 in
theorem c_isIn (l : Launch) {M : Mem} {i k : Nat} {w bi bj : Int} (hi : i < 8) (hA : TR M i) (hk : k < 9) (hw : 1 ≤ w ∧ w ≤ 50) (hbi : i32 bi) (hbj : i32 bj) : Cm l yX4_isIn cX4_isIn 7 (some .boolean) 1 22 [vR (2 + 2 * i), vI (k : Int), vI w, vI bi, vI bj] M (rB ((8 * M (2 + 2 * i) 0 + M (2 + 2 * i) 3 * (k : Int)) / (8 * w) = bi ∧ (8 * M (2 + 2 * i) 1 + M (2 + 2 * i) 4 * (k : Int)) / (8 * w) = bj) M) := by
  refine cmo [some (vR (2 + 2 * i)), some (vI (k : Int)), some (vI w), some (vI bi), some (vI bj), none, none] ?_
  obtain ⟨a0, a1, a2, a3, a4, a5, a6, a7⟩ := id hA
  have p0 := mb (x := M (2 + 2 * i) 3) (z := (k : Int)) 200 8 (by omega) (by omega)
  have p1 := mb (x := M (2 + 2 * i) 4) (z := (k : Int)) 200 8 (by omega) (by omega)
  have q0 := ed_bd (a := 8 * M (2 + 2 * i) 0 + M (2 + 2 * i) 3 * (k : Int)) (b := 8 * w) (c := 3000) (by omega) (by omega) (by omega)
  have q1 := ed_bd (a := 8 * M (2 + 2 * i) 1 + M (2 + 2 * i) 4 * (k : Int)) (b := 8 * w) (c := 3000) (by omega) (by omega) (by omega)
  refine ev_iload_n dX4_isIn_0 rfl ?_
  refine ev_if_gt 6 dX4_isIn_1 (by omega) (fun c1 => ?_) (fun c1 => ?_)
  · refine ev_bipush dX4_isIn_6 (by decide) ?_
    refine ev_aload_n dX4_isIn_8 rfl ?_
    refine em_getI fX4_16.g dX4_isIn_9 (lay_trk (i := i) (by omega)) rfl ?_
    refine ev_imul dX4_isIn_12 ?_
    refine ev_aload_n dX4_isIn_13 rfl ?_
    refine em_getI fX4_26.g dX4_isIn_14 (lay_trk (i := i) (by omega)) rfl ?_
    refine ev_iload_n dX4_isIn_17 rfl ?_
    refine ev_imul dX4_isIn_18 ?_
    refine ev_iadd dX4_isIn_19 ?_
    refine ev_istore dX4_isIn_20 (by decide) ?_
    refine ev_ls [some (vR _), some (vI _), some (vI _), some (vI _), some (vI _), some (vI _), none] rfl ?_
    refine ev_bipush dX4_isIn_22 (by decide) ?_
    refine ev_aload_n dX4_isIn_24 rfl ?_
    refine em_getI fX4_20.g dX4_isIn_25 (lay_trk (i := i) (by omega)) rfl ?_
    refine ev_imul dX4_isIn_28 ?_
    refine ev_aload_n dX4_isIn_29 rfl ?_
    refine em_getI fX4_29.g dX4_isIn_30 (lay_trk (i := i) (by omega)) rfl ?_
    refine ev_iload_n dX4_isIn_33 rfl ?_
    refine ev_imul dX4_isIn_34 ?_
    refine ev_iadd dX4_isIn_35 ?_
    refine ev_istore dX4_isIn_36 (by decide) ?_
    refine ev_ls [some (vR _), some (vI _), some (vI _), some (vI _), some (vI _), some (vI _), some (vI _)] rfl ?_
    refine ev_iload dX4_isIn_38 rfl ?_
    refine ev_bipush dX4_isIn_40 (by decide) ?_
    refine ev_iload_n dX4_isIn_42 rfl ?_
    refine ev_imul dX4_isIn_43 ?_
    refine em_S2 (c_fdI l _ (by omega) (by omega) (by omega)) mX4_43 dX4_isIn_44 ?_
    rintro r M ⟨rfl, rfl⟩
    refine ev_iload_n dX4_isIn_47 rfl ?_
    refine ev_icmp_ne 69 dX4_isIn_48 (by omega) (by omega) (fun c48 => ?_) (fun c48 => ?_)
    · refine ev_iconst dX4_isIn_69 ?_
      first | exact em_zret dX4_isIn_70 (by omega) ⟨rfl, _, rfl, by omega⟩ | omega
    · refine ev_iload dX4_isIn_51 rfl ?_
      refine ev_bipush dX4_isIn_53 (by decide) ?_
      refine ev_iload_n dX4_isIn_55 rfl ?_
      refine ev_imul dX4_isIn_56 ?_
      refine em_S2 (c_fdI l _ (by omega) (by omega) (by omega)) mX4_43 dX4_isIn_57 ?_
      rintro r M ⟨rfl, rfl⟩
      refine ev_iload dX4_isIn_60 rfl ?_
      refine ev_icmp_ne 69 dX4_isIn_62 (by omega) (by omega) (fun c62 => ?_) (fun c62 => ?_)
      · refine ev_iconst dX4_isIn_69 ?_
        first | exact em_zret dX4_isIn_70 (by omega) ⟨rfl, _, rfl, by omega⟩ | omega
      · refine ev_iconst dX4_isIn_65 ?_
        refine ev_goto 70 dX4_isIn_66 ?_
        first | exact em_zret dX4_isIn_70 (by omega) ⟨rfl, _, rfl, by omega⟩ | omega
  · refine ev_iconst dX4_isIn_4 ?_
    first | exact em_zret dX4_isIn_5 (by omega) ⟨rfl, _, rfl, by omega⟩ | omega
set_option maxRecDepth 100000 in
set_option maxHeartbeats 4000000 in
theorem c_readingsIn (l : Launch) {M : Mem} {i : Nat} {w bi bj : Int} (hi : i < 8) (hA : TR M i) (hw : 1 ≤ w ∧ w ≤ 50) (hbi : i32 bi) (hbj : i32 bj) : Cm l yX4_readingsIn cX4_readingsIn 6 (some .int) 2 48 [vR (2 + 2 * i), vI w, vI bi, vI bj] M (rI (cntB (M (2 + 2 * i)) (M (2 + 2 * i + 1)) w bi bj 9) M) := by
  refine cmo [some (vR (2 + 2 * i)), some (vI w), some (vI bi), some (vI bj), none, none] ?_
  have hx := hA.2.2.2.2.2.2.2
  have loop : ∀ (n k : Nat), k + n = 9 → Em l yX4_readingsIn cX4_readingsIn 6 (some .int) 2 48 (rI (cntB (M (2 + 2 * i)) (M (2 + 2 * i + 1)) w bi bj 9) M) 6 [some (vR (2 + 2 * i)), some (vI w), some (vI bi), some (vI bj), some (vI (cntB (M (2 + 2 * i)) (M (2 + 2 * i + 1)) w bi bj k)), some (vI (k : Int))] [] M := by
    intro n
    induction n with
    | zero =>
      intro k hk
      have hbd := cntB_bd (M (2 + 2 * i)) (M (2 + 2 * i + 1)) w bi bj k
      refine ev_iload dX4_readingsIn_6 rfl ?_
      refine ev_bipush dX4_readingsIn_8 (by decide) ?_
      refine ev_icmp_ge 46 dX4_readingsIn_10 (by omega) (by omega) (fun c1 => ?_) (fun c1 => ?_)
      · refine ev_iload dX4_readingsIn_46 rfl ?_
        first | (have e9 : k = 9 := by omega); subst e9; exact em_iret dX4_readingsIn_48 ⟨rfl, rfl⟩ | omega
      · omega
    | succ n ih =>
      intro k hk
      have hbd := cntB_bd (M (2 + 2 * i)) (M (2 + 2 * i + 1)) w bi bj k
      refine ev_iload dX4_readingsIn_6 rfl ?_
      refine ev_bipush dX4_readingsIn_8 (by decide) ?_
      refine ev_icmp_ge 46 dX4_readingsIn_10 (by omega) (by omega) (fun c1 => ?_) (fun c1 => ?_)
      · omega
      · have hxk := hx k (by omega)
        refine ev_aload_n dX4_readingsIn_13 rfl ?_
        refine em_getR fX4_9.g dX4_readingsIn_14 (lay_trk (i := i) (by omega)) rfl ?_
        refine ev_iload dX4_readingsIn_17 rfl ?_
        refine en_iald k dX4_readingsIn_19 (lay_hts (i := i) (by omega)) (by omega) (by omega) ?_
        refine ev_ldc (200000) kX4_15 dX4_readingsIn_20 (by decide) ?_
        refine ev_icmp_eq 40 dX4_readingsIn_22 (by omega) (by omega) (fun c22 => ?_) (fun c22 => ?_)
        · refine ev_iinc dX4_readingsIn_40 rfl (by decide) ?_
          refine ev_ls [some (vR _), some (vI _), some (vI _), some (vI _), some (vI _), some (vI _)] rfl ?_
          refine ev_goto 6 dX4_readingsIn_43 ?_
          have hst := ih (k + 1) (by omega)
          rw [show cntB (M (2 + 2 * i)) (M (2 + 2 * i + 1)) w bi bj (k + 1) = cntB (M (2 + 2 * i)) (M (2 + 2 * i + 1)) w bi bj k + (if inB (M (2 + 2 * i)) (M (2 + 2 * i + 1)) w bi bj k then _ else 0) from rfl] at hst
          first | (rw [if_pos (by constructor <;> omega)] at hst; exact hst) | (rw [if_neg (by intro q; have q1 := q.1; have q2 := q.2; omega), Int.add_zero] at hst; exact hst)
        · refine ev_aload_n dX4_readingsIn_25 rfl ?_
          refine ev_iload dX4_readingsIn_26 rfl ?_
          refine ev_iload_n dX4_readingsIn_28 rfl ?_
          refine ev_iload_n dX4_readingsIn_29 rfl ?_
          refine ev_iload_n dX4_readingsIn_30 rfl ?_
          refine em_V4 (c_isIn l (by omega) hA (by omega) (by omega) (by omega) (by omega)) mX4_39 dX4_readingsIn_31 (lay_trk (i := i) (by omega)) ?_
          rintro r M ⟨rfl, z31, rfl, h31⟩
          refine ev_if_eq 40 dX4_readingsIn_34 (by omega) (fun c34 => ?_) (fun c34 => ?_)
          · refine ev_iinc dX4_readingsIn_40 rfl (by decide) ?_
            refine ev_ls [some (vR _), some (vI _), some (vI _), some (vI _), some (vI _), some (vI _)] rfl ?_
            refine ev_goto 6 dX4_readingsIn_43 ?_
            have hst := ih (k + 1) (by omega)
            rw [show cntB (M (2 + 2 * i)) (M (2 + 2 * i + 1)) w bi bj (k + 1) = cntB (M (2 + 2 * i)) (M (2 + 2 * i + 1)) w bi bj k + (if inB (M (2 + 2 * i)) (M (2 + 2 * i + 1)) w bi bj k then _ else 0) from rfl] at hst
            first | (rw [if_pos (by constructor <;> omega)] at hst; exact hst) | (rw [if_neg (by intro q; have q1 := q.1; have q2 := q.2; omega), Int.add_zero] at hst; exact hst)
          · refine ev_iinc dX4_readingsIn_37 rfl (by decide) ?_
            refine ev_ls [some (vR _), some (vI _), some (vI _), some (vI _), some (vI _), some (vI _)] rfl ?_
            refine ev_iinc dX4_readingsIn_40 rfl (by decide) ?_
            refine ev_ls [some (vR _), some (vI _), some (vI _), some (vI _), some (vI _), some (vI _)] rfl ?_
            refine ev_goto 6 dX4_readingsIn_43 ?_
            have hst := ih (k + 1) (by omega)
            rw [show cntB (M (2 + 2 * i)) (M (2 + 2 * i + 1)) w bi bj (k + 1) = cntB (M (2 + 2 * i)) (M (2 + 2 * i + 1)) w bi bj k + (if inB (M (2 + 2 * i)) (M (2 + 2 * i + 1)) w bi bj k then _ else 0) from rfl] at hst
            first | (rw [if_pos (by constructor <;> omega)] at hst; exact hst) | (rw [if_neg (by intro q; have q1 := q.1; have q2 := q.2; omega), Int.add_zero] at hst; exact hst)
  refine ev_iconst dX4_readingsIn_0 ?_
  refine ev_istore dX4_readingsIn_1 (by decide) ?_
  refine ev_ls [some (vR _), some (vI _), some (vI _), some (vI _), some (vI _), none] rfl ?_
  refine ev_iconst dX4_readingsIn_3 ?_
  refine ev_istore dX4_readingsIn_4 (by decide) ?_
  refine ev_ls [some (vR _), some (vI _), some (vI _), some (vI _), some (vI _), some (vI _)] rfl ?_
  exact loop 9 0 rfl
set_option maxRecDepth 100000 in
set_option maxHeartbeats 4000000 in
theorem c_heightsIn (l : Launch) {M : Mem} {i : Nat} {w bi bj : Int} (hi : i < 8) (hA : TR M i) (hw : 1 ≤ w ∧ w ≤ 50) (hbi : i32 bi) (hbj : i32 bj) : Cm l yX4_heightsIn cX4_heightsIn 7 (some .long) 2 48 [vR (2 + 2 * i), vI w, vI bi, vI bj] M (rL (sumB (M (2 + 2 * i)) (M (2 + 2 * i + 1)) w bi bj 9) M) := by
  refine cmo [some (vR (2 + 2 * i)), some (vI w), some (vI bi), some (vI bj), none, none, none] ?_
  have hx := hA.2.2.2.2.2.2.2
  have loop : ∀ (n k : Nat), k + n = 9 → Em l yX4_heightsIn cX4_heightsIn 7 (some .long) 2 48 (rL (sumB (M (2 + 2 * i)) (M (2 + 2 * i + 1)) w bi bj 9) M) 6 [some (vR (2 + 2 * i)), some (vI w), some (vI bi), some (vI bj), some (vL (sumB (M (2 + 2 * i)) (M (2 + 2 * i + 1)) w bi bj k)), none, some (vI (k : Int))] [] M := by
    intro n
    induction n with
    | zero =>
      intro k hk
      have hbd := sumB_bd (A := (M (2 + 2 * i))) hx w bi bj k (by omega)
      refine ev_iload dX4_heightsIn_6 rfl ?_
      refine ev_bipush dX4_heightsIn_8 (by decide) ?_
      refine ev_icmp_ge 56 dX4_heightsIn_10 (by omega) (by omega) (fun c1 => ?_) (fun c1 => ?_)
      · refine ev_lload dX4_heightsIn_56 rfl ?_
        first | (have e9 : k = 9 := by omega); subst e9; exact em_lret dX4_heightsIn_58 ⟨rfl, rfl⟩ | omega
      · omega
    | succ n ih =>
      intro k hk
      have hbd := sumB_bd (A := (M (2 + 2 * i))) hx w bi bj k (by omega)
      refine ev_iload dX4_heightsIn_6 rfl ?_
      refine ev_bipush dX4_heightsIn_8 (by decide) ?_
      refine ev_icmp_ge 56 dX4_heightsIn_10 (by omega) (by omega) (fun c1 => ?_) (fun c1 => ?_)
      · omega
      · have hxk := hx k (by omega)
        refine ev_aload_n dX4_heightsIn_13 rfl ?_
        refine em_getR fX4_9.g dX4_heightsIn_14 (lay_trk (i := i) (by omega)) rfl ?_
        refine ev_iload dX4_heightsIn_17 rfl ?_
        refine en_iald k dX4_heightsIn_19 (lay_hts (i := i) (by omega)) (by omega) (by omega) ?_
        refine ev_ldc (200000) kX4_15 dX4_heightsIn_20 (by decide) ?_
        refine ev_icmp_eq 50 dX4_heightsIn_22 (by omega) (by omega) (fun c22 => ?_) (fun c22 => ?_)
        · refine ev_iinc dX4_heightsIn_50 rfl (by decide) ?_
          refine ev_ls [some (vR _), some (vI _), some (vI _), some (vI _), some (vL _), none, some (vI _)] rfl ?_
          refine ev_goto 6 dX4_heightsIn_53 ?_
          have hst := ih (k + 1) (by omega)
          rw [show sumB (M (2 + 2 * i)) (M (2 + 2 * i + 1)) w bi bj (k + 1) = sumB (M (2 + 2 * i)) (M (2 + 2 * i + 1)) w bi bj k + (if inB (M (2 + 2 * i)) (M (2 + 2 * i + 1)) w bi bj k then _ else 0) from rfl] at hst
          first | (rw [if_pos (by constructor <;> omega)] at hst; exact hst) | (rw [if_neg (by intro q; have q1 := q.1; have q2 := q.2; omega), Int.add_zero] at hst; exact hst)
        · refine ev_aload_n dX4_heightsIn_25 rfl ?_
          refine ev_iload dX4_heightsIn_26 rfl ?_
          refine ev_iload_n dX4_heightsIn_28 rfl ?_
          refine ev_iload_n dX4_heightsIn_29 rfl ?_
          refine ev_iload_n dX4_heightsIn_30 rfl ?_
          refine em_V4 (c_isIn l (by omega) hA (by omega) (by omega) (by omega) (by omega)) mX4_39 dX4_heightsIn_31 (lay_trk (i := i) (by omega)) ?_
          rintro r M ⟨rfl, z31, rfl, h31⟩
          refine ev_if_eq 50 dX4_heightsIn_34 (by omega) (fun c34 => ?_) (fun c34 => ?_)
          · refine ev_iinc dX4_heightsIn_50 rfl (by decide) ?_
            refine ev_ls [some (vR _), some (vI _), some (vI _), some (vI _), some (vL _), none, some (vI _)] rfl ?_
            refine ev_goto 6 dX4_heightsIn_53 ?_
            have hst := ih (k + 1) (by omega)
            rw [show sumB (M (2 + 2 * i)) (M (2 + 2 * i + 1)) w bi bj (k + 1) = sumB (M (2 + 2 * i)) (M (2 + 2 * i + 1)) w bi bj k + (if inB (M (2 + 2 * i)) (M (2 + 2 * i + 1)) w bi bj k then _ else 0) from rfl] at hst
            first | (rw [if_pos (by constructor <;> omega)] at hst; exact hst) | (rw [if_neg (by intro q; have q1 := q.1; have q2 := q.2; omega), Int.add_zero] at hst; exact hst)
          · refine ev_lload dX4_heightsIn_37 rfl ?_
            refine ev_aload_n dX4_heightsIn_39 rfl ?_
            refine em_getR fX4_9.g dX4_heightsIn_40 (lay_trk (i := i) (by omega)) rfl ?_
            refine ev_iload dX4_heightsIn_43 rfl ?_
            refine en_iald k dX4_heightsIn_45 (lay_hts (i := i) (by omega)) (by omega) (by omega) ?_
            refine ev_i2l dX4_heightsIn_46 (by omega) ?_
            refine ev_ladd dX4_heightsIn_47 ?_
            refine ev_lstore dX4_heightsIn_48 (by decide) ?_
            refine ev_ls [some (vR _), some (vI _), some (vI _), some (vI _), some (vL _), none, some (vI _)] rfl ?_
            refine ev_iinc dX4_heightsIn_50 rfl (by decide) ?_
            refine ev_ls [some (vR _), some (vI _), some (vI _), some (vI _), some (vL _), none, some (vI _)] rfl ?_
            refine ev_goto 6 dX4_heightsIn_53 ?_
            have hst := ih (k + 1) (by omega)
            rw [show sumB (M (2 + 2 * i)) (M (2 + 2 * i + 1)) w bi bj (k + 1) = sumB (M (2 + 2 * i)) (M (2 + 2 * i + 1)) w bi bj k + (if inB (M (2 + 2 * i)) (M (2 + 2 * i + 1)) w bi bj k then _ else 0) from rfl] at hst
            first | (rw [if_pos (by constructor <;> omega)] at hst; exact hst) | (rw [if_neg (by intro q; have q1 := q.1; have q2 := q.2; omega), Int.add_zero] at hst; exact hst)
  refine ev_lconst0 dX4_heightsIn_0 ?_
  refine ev_lstore dX4_heightsIn_1 (by decide) ?_
  refine ev_ls [some (vR _), some (vI _), some (vI _), some (vI _), some (vL _), none, none] rfl ?_
  refine ev_iconst dX4_heightsIn_3 ?_
  refine ev_istore dX4_heightsIn_4 (by decide) ?_
  refine ev_ls [some (vR _), some (vI _), some (vI _), some (vI _), some (vL _), none, some (vI _)] rfl ?_
  exact loop 9 0 rfl
set_option maxRecDepth 100000 in
set_option maxHeartbeats 4000000 in
theorem c_distance (l : Launch) {M : Mem} {i : Nat} {r : Int} (hi : i < 6) (hp : 1 ≤ M 51 i ∧ M 51 i ≤ 1000000) (hr : 1 ≤ r ∧ r ≤ 1000000) : Cm l yX3_distance cX3_distance 5 (some .long) 1 21 [vR 50, vI (i : Int), vI r] M (rL (dst (M 51 i) r) M) := by
  refine cmo [some (vR 50), some (vI (i : Int)), some (vI r), none, none] ?_
  have e1 : r.tmod (M 51 i) = r % M 51 i := Int.tmod_eq_emod_of_nonneg (by omega)
  have e2 := Int.emod_nonneg r (show M 51 i ≠ 0 by omega)
  have e3 := Int.emod_lt_of_pos r (show 0 < M 51 i by omega)
  refine ev_aload_n dX3_distance_0 rfl ?_
  refine em_getR fX3_9.g dX3_distance_1 lay_50 rfl ?_
  refine ev_iload_n dX3_distance_4 rfl ?_
  refine en_iald i dX3_distance_5 lay_51 (by omega) (by omega) ?_
  refine ev_istore_n dX3_distance_6 (by decide) ?_
  refine ev_ls [some (vR _), some (vI _), some (vI _), some (vI _), none] rfl ?_
  refine ev_iload_n dX3_distance_7 rfl ?_
  refine ev_if_gt 13 dX3_distance_8 (by omega) (fun c8 => ?_) (fun c8 => ?_)
  · refine ev_iload_n dX3_distance_13 rfl ?_
    refine ev_iload_n dX3_distance_14 rfl ?_
    refine ev_irem dX3_distance_15 (by omega) (by omega) (by omega) ?_
    rw [e1]
    refine ev_istore dX3_distance_16 (by decide) ?_
    refine ev_ls [some (vR _), some (vI _), some (vI _), some (vI _), some (vI _)] rfl ?_
    refine ev_iload dX3_distance_18 rfl ?_
    refine ev_iload_n dX3_distance_20 rfl ?_
    refine ev_iload dX3_distance_21 rfl ?_
    refine ev_isub dX3_distance_23 ?_
    refine em_S2 (c_mmin l _ (by omega) (by omega)) mX3_19 dX3_distance_24 ?_
    rintro r M ⟨rfl, rfl⟩
    refine ev_i2l dX3_distance_27 (by omega) ?_
    first | exact em_lret dX3_distance_28 ⟨rfl, rfl⟩ | omega
  · refine ev_lconst0 dX3_distance_11 ?_
    first | exact em_lret dX3_distance_12 ⟨rfl, rfl⟩ | omega
theorem dst_bd {p r : Int} (hp : 1 ≤ p) : 0 ≤ dst p r ∧ dst p r ≤ p := by
  have e2 := Int.emod_nonneg r (show p ≠ 0 by omega)
  have e3 := Int.emod_lt_of_pos r (show 0 < p by omega)
  unfold dst
  omega
set_option maxRecDepth 100000 in
set_option maxHeartbeats 4000000 in
theorem c_areToldApart (l : Launch) {M : Mem} {i j : Nat} {r yy : Int} (hi : i < 6) (hj : j < 6) (hp : 1 ≤ M 51 i ∧ M 51 i ≤ 1000000) (hq : 1 ≤ M 51 j ∧ M 51 j ≤ 1000000) (hr : 1 ≤ r ∧ r ≤ 1000000) (hy : 1 ≤ yy ∧ yy ≤ 100000) : Cm l yX3_areToldApart cX3_areToldApart 13 (some .boolean) 2 45 [vR 50, vI (i : Int), vI (j : Int), vI r, vI yy] M (rB (-((-(M 51 i * M 51 j * r)) / (1000 * yy)) ≤ (if dst (M 51 i) r * M 51 j - dst (M 51 j) r * M 51 i < 0 then -(dst (M 51 i) r * M 51 j - dst (M 51 j) r * M 51 i) else dst (M 51 i) r * M 51 j - dst (M 51 j) r * M 51 i)) M) := by
  refine cmo [some (vR 50), some (vI (i : Int)), some (vI (j : Int)), some (vI r), some (vI yy), none, none, none, none, none, none, none, none] ?_
  have d1 := dst_bd (p := M 51 i) (r := r) (by omega)
  have d2 := dst_bd (p := M 51 j) (r := r) (by omega)
  have p1 := mb (x := dst (M 51 i) r) (z := M 51 j) 1000000 1000000 (by omega) (by omega)
  have p2 := mb (x := dst (M 51 j) r) (z := M 51 i) 1000000 1000000 (by omega) (by omega)
  have p3 := mb (x := M 51 i) (z := M 51 j) 1000000 1000000 (by omega) (by omega)
  have p4 := mb (x := M 51 i * M 51 j) (z := r) 1000000000000 1000000 (by omega) (by omega)
  have q0 := ed_bd (a := -(M 51 i * M 51 j * r)) (b := 1000 * yy) (c := 1000000000000000000) (by omega) (by omega) (by omega)
  have q1 : i64 (if dst (M 51 i) r * M 51 j - dst (M 51 j) r * M 51 i < 0 then -(dst (M 51 i) r * M 51 j - dst (M 51 j) r * M 51 i) else dst (M 51 i) r * M 51 j - dst (M 51 j) r * M 51 i) := by split <;> omega
  refine ev_aload_n dX3_areToldApart_0 rfl ?_
  refine ev_iload_n dX3_areToldApart_1 rfl ?_
  refine ev_iload_n dX3_areToldApart_2 rfl ?_
  refine em_V2 (c_distance l (by omega) (by omega) (by omega)) mX3_25 dX3_areToldApart_3 lay_50 ?_
  rintro r M ⟨rfl, rfl⟩
  refine ev_aload_n dX3_areToldApart_6 rfl ?_
  refine em_getR fX3_9.g dX3_areToldApart_7 lay_50 rfl ?_
  refine ev_iload_n dX3_areToldApart_10 rfl ?_
  refine en_iald j dX3_areToldApart_11 lay_51 (by omega) (by omega) ?_
  refine ev_i2l dX3_areToldApart_12 (by omega) ?_
  refine ev_lmul dX3_areToldApart_13 ?_
  refine ev_lstore dX3_areToldApart_14 (by decide) ?_
  refine ev_ls [some (vR _), some (vI _), some (vI _), some (vI _), some (vI _), some (vL _), none, none, none, none, none, none, none] rfl ?_
  refine ev_aload_n dX3_areToldApart_16 rfl ?_
  refine ev_iload_n dX3_areToldApart_17 rfl ?_
  refine ev_iload_n dX3_areToldApart_18 rfl ?_
  refine em_V2 (c_distance l (by omega) (by omega) (by omega)) mX3_25 dX3_areToldApart_19 lay_50 ?_
  rintro r M ⟨rfl, rfl⟩
  refine ev_aload_n dX3_areToldApart_22 rfl ?_
  refine em_getR fX3_9.g dX3_areToldApart_23 lay_50 rfl ?_
  refine ev_iload_n dX3_areToldApart_26 rfl ?_
  refine en_iald i dX3_areToldApart_27 lay_51 (by omega) (by omega) ?_
  refine ev_i2l dX3_areToldApart_28 (by omega) ?_
  refine ev_lmul dX3_areToldApart_29 ?_
  refine ev_lstore dX3_areToldApart_30 (by decide) ?_
  refine ev_ls [some (vR _), some (vI _), some (vI _), some (vI _), some (vI _), some (vL _), none, some (vL _), none, none, none, none, none] rfl ?_
  refine ev_ldc2 (1000) kX3_29 dX3_areToldApart_32 (by decide) ?_
  refine ev_iload dX3_areToldApart_35 rfl ?_
  refine ev_i2l dX3_areToldApart_37 (by omega) ?_
  refine ev_lmul dX3_areToldApart_38 ?_
  refine ev_lstore dX3_areToldApart_39 (by decide) ?_
  refine ev_ls [some (vR _), some (vI _), some (vI _), some (vI _), some (vI _), some (vL _), none, some (vL _), none, some (vL _), none, none, none] rfl ?_
  refine ev_lload dX3_areToldApart_41 rfl ?_
  refine ev_lconst0 dX3_areToldApart_43 ?_
  refine ev_lcmp_gt 50 dX3_areToldApart_44 dX3_areToldApart_45 (by omega) (by omega) (fun c44 => ?_) (fun c44 => ?_)
  · refine ev_aload_n dX3_areToldApart_50 rfl ?_
    refine em_getR fX3_9.g dX3_areToldApart_51 lay_50 rfl ?_
    refine ev_iload_n dX3_areToldApart_54 rfl ?_
    refine en_iald i dX3_areToldApart_55 lay_51 (by omega) (by omega) ?_
    refine ev_i2l dX3_areToldApart_56 (by omega) ?_
    refine ev_aload_n dX3_areToldApart_57 rfl ?_
    refine em_getR fX3_9.g dX3_areToldApart_58 lay_50 rfl ?_
    refine ev_iload_n dX3_areToldApart_61 rfl ?_
    refine en_iald j dX3_areToldApart_62 lay_51 (by omega) (by omega) ?_
    refine ev_i2l dX3_areToldApart_63 (by omega) ?_
    refine ev_lmul dX3_areToldApart_64 ?_
    refine ev_iload_n dX3_areToldApart_65 rfl ?_
    refine ev_i2l dX3_areToldApart_66 (by omega) ?_
    refine ev_lmul dX3_areToldApart_67 ?_
    refine ev_lstore dX3_areToldApart_68 (by decide) ?_
    refine ev_ls [some (vR _), some (vI _), some (vI _), some (vI _), some (vI _), some (vL _), none, some (vL _), none, some (vL _), none, some (vL _), none] rfl ?_
    refine ev_lload dX3_areToldApart_70 rfl ?_
    refine ev_lload dX3_areToldApart_72 rfl ?_
    refine ev_lsub dX3_areToldApart_74 ?_
    refine em_S1 (c_mabs l _ (by omega)) mX3_31 dX3_areToldApart_75 ?_
    rintro r M ⟨rfl, rfl⟩
    refine ev_lload dX3_areToldApart_78 rfl ?_
    refine ev_lneg dX3_areToldApart_80 ?_
    refine ev_lload dX3_areToldApart_81 rfl ?_
    refine em_S2 (c_fdL l _ (by omega) (by omega) (by omega)) mX3_35 dX3_areToldApart_83 ?_
    rintro r M ⟨rfl, rfl⟩
    refine ev_lneg dX3_areToldApart_86 ?_
    refine ev_lcmp_lt 95 dX3_areToldApart_87 dX3_areToldApart_88 (by omega) (by omega) (fun c87 => ?_) (fun c87 => ?_)
    · refine ev_iconst dX3_areToldApart_95 ?_
      first | exact em_zret dX3_areToldApart_96 (by omega) ⟨rfl, _, rfl, by first | exact Or.inl ⟨rfl, by omega⟩ | exact Or.inr ⟨rfl, by omega⟩⟩ | omega
    · refine ev_iconst dX3_areToldApart_91 ?_
      refine ev_goto 96 dX3_areToldApart_92 ?_
      first | exact em_zret dX3_areToldApart_96 (by omega) ⟨rfl, _, rfl, by first | exact Or.inl ⟨rfl, by omega⟩ | exact Or.inr ⟨rfl, by omega⟩⟩ | omega
  · refine ev_iconst dX3_areToldApart_48 ?_
    first | exact em_zret dX3_areToldApart_49 (by omega) ⟨rfl, _, rfl, by first | exact Or.inl ⟨rfl, by omega⟩ | exact Or.inr ⟨rfl, by omega⟩⟩ | omega
end
section
/-- the model's rows of a track are the class's -/
def LK (M : Mem) (t : Nat) : Prop := M 54 (6 * t) = M (2 + 2 * t) 0 ∧ M 54 (6 * t + 1) = M (2 + 2 * t) 1 ∧ M 54 (6 * t + 2) = M (2 + 2 * t) 0 + M (2 + 2 * t) 3 ∧ M 54 (6 * t + 3) = M (2 + 2 * t) 1 + M (2 + 2 * t) 4 ∧ M 54 (6 * t + 4) = M (2 + 2 * t) 2 ∧ M 54 (6 * t + 5) = M (2 + 2 * t) 2 + M (2 + 2 * t) 5 ∧ M 56 t = M (2 + 2 * t) 6 ∧ ∀ i, i < 9 → M 55 (9 * t + i) = M (2 + 2 * t + 1) i
theorem LK.of {M M' : Mem} {t : Nat} (h : LK M t) (ht : t < 8) (hk : ∀ k, k ≠ 53 → M' k = M k) : LK M' t := by
  unfold LK at *
  rw [hk 54 (by omega), hk 55 (by omega), hk 56 (by omega), hk (2 + 2 * t) (by omega), hk (2 + 2 * t + 1) (by omega)]
  exact h
theorem TR.of53 {M M' : Mem} {t : Nat} (h : TR M t) (ht : t < 8) (hk : ∀ k, k ≠ 53 → M' k = M k) : TR M' t := h.of (hk _ (by omega)) (hk _ (by omega))
set_option maxRecDepth 100000 in
set_option maxHeartbeats 4000000 in
theorem d_in (l : Launch) (M : Mem) {a b c : Int} (ha : i64 a) (hb : i64 b) (hc : i64 c) : Cm l yX6_in cX6_in 6 (some .boolean) 0 0 [vL a, vL b, vL c] M (rB (b ≤ a ∧ a ≤ c) M) := by
  refine cmo [some (vL a), none, some (vL b), none, some (vL c), none] ?_
  refine ev_lload_n dX6_in_0 rfl ?_
  refine ev_lload_n dX6_in_1 rfl ?_
  refine ev_lcmp_lt 17 dX6_in_2 dX6_in_3 (by omega) (by omega) (fun c2 => ?_) (fun c2 => ?_)
  · refine ev_iconst dX6_in_17 ?_
    exact em_zret dX6_in_18 (by omega) ⟨rfl, _, rfl, by omega⟩
  · refine ev_lload_n dX6_in_6 rfl ?_
    refine ev_lload dX6_in_7 rfl ?_
    refine ev_lcmp_gt 17 dX6_in_9 dX6_in_10 (by omega) (by omega) (fun c9 => ?_) (fun c9 => ?_)
    · refine ev_iconst dX6_in_17 ?_
      exact em_zret dX6_in_18 (by omega) ⟨rfl, _, rfl, by omega⟩
    · refine ev_iconst dX6_in_13 ?_
      refine ev_goto 18 dX6_in_14 ?_
      exact em_zret dX6_in_18 (by omega) ⟨rfl, _, rfl, by omega⟩
set_option maxRecDepth 100000 in
set_option maxHeartbeats 4000000 in
theorem d_isTrack (l : Launch) {M : Mem} {a : Int} (ha : i32 a) (hT : 0 ≤ M 53 0 ∧ M 53 0 ≤ 8) : Cm l yX6_isTrack cX6_isTrack 2 (some .boolean) 1 25 [vR 53, vI a] M (rB (0 ≤ a ∧ a < M 53 0) M) := by
  refine cmo [some (vR 53), some (vI a)] ?_
  refine ev_iload_n dX6_isTrack_0 rfl ?_
  refine ev_i2l dX6_isTrack_1 (by omega) ?_
  refine ev_lconst0 dX6_isTrack_2 ?_
  refine ev_aload_n dX6_isTrack_3 rfl ?_
  refine em_getI fX6_40.g dX6_isTrack_4 lay_53 rfl ?_
  refine ev_iconst dX6_isTrack_7 ?_
  refine ev_isub dX6_isTrack_8 ?_
  refine ev_i2l dX6_isTrack_9 (by omega) ?_
  refine em_S3 (d_in l _ (by omega) (by omega) (by omega)) mX6_44 dX6_isTrack_10 ?_
  rintro r M ⟨rfl, z10, rfl, h10⟩
  exact em_zret dX6_isTrack_13 (by omega) ⟨rfl, _, rfl, by omega⟩
set_option maxRecDepth 100000 in
set_option maxHeartbeats 4000000 in
theorem d_isTone (l : Launch) {M : Mem} {a : Int} (ha : i32 a) (hT : 0 ≤ M 53 4 ∧ M 53 4 ≤ 6) : Cm l yX6_isTone cX6_isTone 2 (some .boolean) 1 25 [vR 53, vI a] M (rB (0 ≤ a ∧ a < M 53 4) M) := by
  refine cmo [some (vR 53), some (vI a)] ?_
  refine ev_iload_n dX6_isTone_0 rfl ?_
  refine ev_i2l dX6_isTone_1 (by omega) ?_
  refine ev_lconst0 dX6_isTone_2 ?_
  refine ev_aload_n dX6_isTone_3 rfl ?_
  refine em_getI fX6_159.g dX6_isTone_4 lay_53 rfl ?_
  refine ev_iconst dX6_isTone_7 ?_
  refine ev_isub dX6_isTone_8 ?_
  refine ev_i2l dX6_isTone_9 (by omega) ?_
  refine em_S3 (d_in l _ (by omega) (by omega) (by omega)) mX6_44 dX6_isTone_10 ?_
  rintro r M ⟨rfl, z10, rfl, h10⟩
  exact em_zret dX6_isTone_13 (by omega) ⟨rfl, _, rfl, by omega⟩
set_option maxRecDepth 100000 in
set_option maxHeartbeats 4000000 in
theorem d_isSpot (l : Launch) (M : Mem) {a b : Int} (ha : i32 a) (hb : i32 b) : Cm l yX6_isSpot cX6_isSpot 2 (some .boolean) 1 25 [vI a, vI b] M (rB ((-100 ≤ a ∧ a ≤ 100) ∧ (-100 ≤ b ∧ b ≤ 100)) M) := by
  refine cmo [some (vI a), some (vI b)] ?_
  refine ev_iload_n dX6_isSpot_0 rfl ?_
  refine ev_i2l dX6_isSpot_1 (by omega) ?_
  refine ev_ldc2 (-100) kX6_48 dX6_isSpot_2 (by decide) ?_
  refine ev_ldc2 (100) kX6_50 dX6_isSpot_5 (by decide) ?_
  refine em_S3 (d_in l _ (by omega) (by omega) (by omega)) mX6_44 dX6_isSpot_8 ?_
  rintro r M ⟨rfl, z8, rfl, h8⟩
  refine ev_if_eq 32 dX6_isSpot_11 (by omega) (fun c11 => ?_) (fun c11 => ?_)
  · refine ev_iconst dX6_isSpot_32 ?_
    exact em_zret dX6_isSpot_33 (by omega) ⟨rfl, _, rfl, by omega⟩
  · refine ev_iload_n dX6_isSpot_14 rfl ?_
    refine ev_i2l dX6_isSpot_15 (by omega) ?_
    refine ev_ldc2 (-100) kX6_48 dX6_isSpot_16 (by decide) ?_
    refine ev_ldc2 (100) kX6_50 dX6_isSpot_19 (by decide) ?_
    refine em_S3 (d_in l _ (by omega) (by omega) (by omega)) mX6_44 dX6_isSpot_22 ?_
    rintro r M ⟨rfl, z22, rfl, h22⟩
    refine ev_if_eq 32 dX6_isSpot_25 (by omega) (fun c25 => ?_) (fun c25 => ?_)
    · refine ev_iconst dX6_isSpot_32 ?_
      exact em_zret dX6_isSpot_33 (by omega) ⟨rfl, _, rfl, by omega⟩
    · refine ev_iconst dX6_isSpot_28 ?_
      refine ev_goto 33 dX6_isSpot_29 ?_
      exact em_zret dX6_isSpot_33 (by omega) ⟨rfl, _, rfl, by omega⟩
set_option maxRecDepth 100000 in
set_option maxHeartbeats 4000000 in
theorem d_least (l : Launch) (M : Mem) {p r : Int} (hp : 1 ≤ p ∧ p ≤ 1000000) (hr : 1 ≤ r ∧ r ≤ 1000000) : Cm l yX6_least cX6_least 6 (some .long) 0 0 [vL p, vL r] M (rL (dst p r) M) := by
  refine cmo [some (vL p), none, some (vL r), none, none, none] ?_
  have e1 : r.tmod p = r % p := Int.tmod_eq_emod_of_nonneg (by omega)
  have e2 := Int.emod_nonneg r (show p ≠ 0 by omega)
  have e3 := Int.emod_lt_of_pos r (show 0 < p by omega)
  refine ev_lload_n dX6_least_0 rfl ?_
  refine ev_lload_n dX6_least_1 rfl ?_
  refine ev_lrem dX6_least_2 (by omega) (by omega) (by omega) ?_
  rw [e1]
  refine ev_lstore dX6_least_3 (by decide) ?_
  refine ev_ls [some (vL _), none, some (vL _), none, some (vL _), none] rfl ?_
  refine ev_lload dX6_least_5 rfl ?_
  refine ev_lload_n dX6_least_7 rfl ?_
  refine ev_lload dX6_least_8 rfl ?_
  refine ev_lsub dX6_least_10 ?_
  refine ev_lcmp_ge 20 dX6_least_11 dX6_least_12 (by omega) (by omega) (fun c11 => ?_) (fun c11 => ?_)
  · refine ev_lload_n dX6_least_20 rfl ?_
    refine ev_lload dX6_least_21 rfl ?_
    refine ev_lsub dX6_least_23 ?_
    exact em_lret dX6_least_24 ⟨rfl, by unfold dst; congr 3; omega⟩
  · refine ev_lload dX6_least_15 rfl ?_
    refine ev_goto 24 dX6_least_17 ?_
    exact em_lret dX6_least_24 ⟨rfl, by unfold dst; congr 3; omega⟩
set_option maxRecDepth 100000 in
set_option maxHeartbeats 4000000 in
theorem d_between (l : Launch) {M : Mem} {a b c : Int} : Cm l yX6_between cX6_between 7 (some .long) 0 0 [vR 53, vL a, vL b, vL c] M (rL (a * M 53 6 + (b - a) * c) M) := by
  refine cmo [some (vR 53), some (vL a), none, some (vL b), none, some (vL c), none] ?_
  refine ev_lload_n dX6_between_0 rfl ?_
  refine ev_aload_n dX6_between_1 rfl ?_
  refine em_getL fX6_69.g dX6_between_2 lay_53 rfl ?_
  refine ev_lmul dX6_between_5 ?_
  refine ev_lload_n dX6_between_6 rfl ?_
  refine ev_lload_n dX6_between_7 rfl ?_
  refine ev_lsub dX6_between_8 ?_
  refine ev_lload dX6_between_9 rfl ?_
  refine ev_lmul dX6_between_11 ?_
  refine ev_ladd dX6_between_12 ?_
  exact em_lret dX6_between_13 ⟨rfl, rfl⟩
theorem dn_neg {a b : Int} (hb : 0 < b) (ha : a < 0) : -((b - 1 - a).tdiv b) = a / b := by
  rw [Int.tdiv_eq_ediv_of_nonneg (by omega)]
  have e1 := Int.mul_ediv_add_emod a b
  have e2 := Int.emod_nonneg a (show b ≠ 0 by omega)
  have e3 := Int.emod_lt_of_pos a hb
  have h := (Int.ediv_emod_unique (a := b - 1 - a) (r := b - 1 - a % b) (q := -(a / b)) hb).mpr ⟨by rw [Int.mul_neg]; omega, by omega, by omega⟩
  rw [h.1, Int.neg_neg]
set_option maxRecDepth 100000 in
set_option maxHeartbeats 4000000 in
theorem d_down (l : Launch) (M : Mem) {a b : Int} (ha : -4611686018427387904 < a ∧ a < 4611686018427387904) (hb : 0 < b ∧ b < 4611686018427387904) : Cm l yX6_down cX6_down 4 (some .long) 0 0 [vL a, vL b] M (rL (a / b) M) := by
  refine cmo [some (vL a), none, some (vL b), none] ?_
  refine ev_lload_n dX6_down_0 rfl ?_
  refine ev_lconst0 dX6_down_1 ?_
  refine ev_lcmp_lt 12 dX6_down_2 dX6_down_3 (by omega) (by omega) (fun c2 => ?_) (fun c2 => ?_)
  · refine ev_lload_n dX6_down_12 rfl ?_
    refine ev_lconst1 dX6_down_13 ?_
    refine ev_lsub dX6_down_14 ?_
    refine ev_lload_n dX6_down_15 rfl ?_
    refine ev_lsub dX6_down_16 ?_
    refine ev_lload_n dX6_down_17 rfl ?_
    refine ev_ldiv dX6_down_18 (by omega) (by omega) (by omega) ?_
    refine ev_lneg dX6_down_19 ?_
    first | exact em_lret dX6_down_20 ⟨rfl, by rw [dn_neg (by omega) (by omega)]⟩ | exact em_lret dX6_down_20 ⟨rfl, by rw [Int.tdiv_eq_ediv_of_nonneg (by omega)]⟩
  · refine ev_lload_n dX6_down_6 rfl ?_
    refine ev_lload_n dX6_down_7 rfl ?_
    refine ev_ldiv dX6_down_8 (by omega) (by omega) (by omega) ?_
    refine ev_goto 20 dX6_down_9 ?_
    first | exact em_lret dX6_down_20 ⟨rfl, by rw [dn_neg (by omega) (by omega)]⟩ | exact em_lret dX6_down_20 ⟨rfl, by rw [Int.tdiv_eq_ediv_of_nonneg (by omega)]⟩
set_option maxRecDepth 100000 in
set_option maxHeartbeats 4000000 in
theorem d_common (l : Launch) (M : Mem) {a b : Int} (ha : -9223372036854775808 < a ∧ a < 9223372036854775808) (hb : 0 ≤ b ∧ b < 9223372036854775808) : Cm l yX6_common cX6_common 10 (some .long) 0 0 [vL a, vL b] M (rL (Int.gcd a b : Int) M) := by
  refine cmo [some (vL a), none, some (vL b), none, none, none, none, none, none, none] ?_
  have loop : ∀ (n lg sm : Nat), sm < n → Nat.gcd lg sm = Int.gcd a b → lg < 9223372036854775808 → sm < 9223372036854775808 → Em l yX6_common cX6_common 10 (some .long) 0 0 (rL (Int.gcd a b : Int) M) 17 [some (vL a), none, some (vL b), none, some (vL (lg : Int)), none, some (vL (sm : Int)), none, none, none] [] M := by
    intro n
    induction n with
    | zero => intro lg sm h; omega
    | succ n ih =>
      intro lg sm hn hg hl hs
      refine ev_lload dX6_common_17 rfl ?_
      refine ev_lconst0 dX6_common_19 ?_
      refine ev_lcmp_eq 42 dX6_common_20 dX6_common_21 (by omega) (by omega) (fun c1 => ?_) (fun c1 => ?_)
      · refine ev_lload dX6_common_42 rfl ?_
        have e0 : sm = 0 := by omega
        subst e0
        rw [Nat.gcd_zero_right] at hg
        exact em_lret dX6_common_44 ⟨rfl, by rw [hg]⟩
      · have hmod : (lg : Int).tmod (sm : Int) = ((lg % sm : Nat) : Int) := (Int.ofNat_tmod lg sm).symm
        have hlt : lg % sm < sm := Nat.mod_lt _ (by omega)
        refine ev_lload dX6_common_24 rfl ?_
        refine ev_lload dX6_common_26 rfl ?_
        refine ev_lrem dX6_common_28 (by omega) (by omega) (by omega) ?_
        rw [hmod]
        refine ev_lstore dX6_common_29 (by decide) ?_
        refine ev_ls [some (vL _), none, some (vL _), none, some (vL _), none, some (vL _), none, some (vL _), none] rfl ?_
        refine ev_lload dX6_common_31 rfl ?_
        refine ev_lstore dX6_common_33 (by decide) ?_
        refine ev_ls [some (vL _), none, some (vL _), none, some (vL _), none, some (vL _), none, some (vL _), none] rfl ?_
        refine ev_lload dX6_common_35 rfl ?_
        refine ev_lstore dX6_common_37 (by decide) ?_
        refine ev_ls [some (vL _), none, some (vL _), none, some (vL _), none, some (vL _), none, some (vL _), none] rfl ?_
        refine ev_goto 17 dX6_common_39 ?_
        refine ev_mask [true, true, true, true, true, true, true, true, false, false] ?_
        exact ih sm (lg % sm) (by omega) (by rw [← hg, Nat.gcd_comm sm, ← Nat.gcd_rec, Nat.gcd_comm]) (by omega) (by omega)
  refine ev_lload_n dX6_common_0 rfl ?_
  refine ev_lconst0 dX6_common_1 ?_
  refine ev_lcmp_ge 11 dX6_common_2 dX6_common_3 (by omega) (by omega) (fun c2 => ?_) (fun c2 => ?_)
  · refine ev_lload_n dX6_common_11 rfl ?_
    refine ev_lstore dX6_common_12 (by decide) ?_
    refine ev_ls [some (vL _), none, some (vL _), none, some (vL _), none, none, none, none, none] rfl ?_
    refine ev_lload_n dX6_common_14 rfl ?_
    refine ev_lstore dX6_common_15 (by decide) ?_
    refine ev_ls [some (vL _), none, some (vL _), none, some (vL _), none, some (vL _), none, none, none] rfl ?_
    have hfin := loop (b.natAbs + 1) a.natAbs b.natAbs (by omega) rfl (by omega) (by omega)
    first | (rw [show ((a.natAbs : Nat) : Int) = -a by omega, show ((b.natAbs : Nat) : Int) = b by omega] at hfin; exact hfin) | (rw [show ((a.natAbs : Nat) : Int) = a by omega, show ((b.natAbs : Nat) : Int) = b by omega] at hfin; exact hfin)
  · refine ev_lload_n dX6_common_6 rfl ?_
    refine ev_lneg dX6_common_7 ?_
    refine ev_goto 12 dX6_common_8 ?_
    refine ev_lstore dX6_common_12 (by decide) ?_
    refine ev_ls [some (vL _), none, some (vL _), none, some (vL _), none, none, none, none, none] rfl ?_
    refine ev_lload_n dX6_common_14 rfl ?_
    refine ev_lstore dX6_common_15 (by decide) ?_
    refine ev_ls [some (vL _), none, some (vL _), none, some (vL _), none, some (vL _), none, none, none] rfl ?_
    have hfin := loop (b.natAbs + 1) a.natAbs b.natAbs (by omega) rfl (by omega) (by omega)
    first | (rw [show ((a.natAbs : Nat) : Int) = -a by omega, show ((b.natAbs : Nat) : Int) = b by omega] at hfin; exact hfin) | (rw [show ((a.natAbs : Nat) : Int) = a by omega, show ((b.natAbs : Nat) : Int) = b by omega] at hfin; exact hfin)
set_option maxRecDepth 100000 in
set_option maxHeartbeats 4000000 in
theorem d_part (l : Launch) (M : Mem) {a b c : Int} (ha : -9223372036854775808 < a ∧ a < 9223372036854775808) (hb : 0 < b ∧ b < 9223372036854775808) (hc : i32 c) : Cm l yX6_part cX6_part 5 (some .long) 1 29 [vL a, vL b, vI c] M (rL ((if c = 0 then a else b).tdiv (Int.gcd a b : Int)) M) := by
  have hg1 : 0 < Int.gcd a b := Int.gcd_pos_of_ne_zero_right a (by omega)
  have hg2 : (Int.gcd a b : Int) ≤ b := Int.le_of_dvd (by omega) (Int.gcd_dvd_right a b)
  refine cmo [some (vL a), none, some (vL b), none, some (vI c)] ?_
  refine ev_iload dX6_part_0 rfl ?_
  refine ev_if_ne 9 dX6_part_2 (by omega) (fun c2 => ?_) (fun c2 => ?_)
  · refine ev_lload_n dX6_part_9 rfl ?_
    refine ev_lload_n dX6_part_10 rfl ?_
    refine ev_lload_n dX6_part_11 rfl ?_
    refine em_S2 (d_common l _ (by omega) (by omega)) mX6_84 dX6_part_12 ?_
    rintro r M ⟨rfl, rfl⟩
    refine ev_ldiv dX6_part_15 (by omega) (by omega) (by omega) ?_
    exact em_lret dX6_part_16 ⟨rfl, by first | rw [if_pos (by omega)] | rw [if_neg (by omega)]⟩
  · refine ev_lload_n dX6_part_5 rfl ?_
    refine ev_goto 10 dX6_part_6 ?_
    refine ev_lload_n dX6_part_10 rfl ?_
    refine ev_lload_n dX6_part_11 rfl ?_
    refine em_S2 (d_common l _ (by omega) (by omega)) mX6_84 dX6_part_12 ?_
    rintro r M ⟨rfl, rfl⟩
    refine ev_ldiv dX6_part_15 (by omega) (by omega) (by omega) ?_
    exact em_lret dX6_part_16 ⟨rfl, by first | rw [if_pos (by omega)] | rw [if_neg (by omega)]⟩
set_option maxRecDepth 100000 in
set_option maxHeartbeats 4000000 in
theorem d_meet (l : Launch) {M : Mem} {i j : Nat} (hi : i < 8) (hj : j < 8) (hA : TR M i) (hB : TR M j) (hLA : LK M i) (hLB : LK M j) : Cm l yX6_meet cX6_meet 15 (some .boolean) 1 25 [vR 53, vI (i : Int), vI (j : Int)] M (fun r M' => (∀ k, k ≠ 53 → M' k = M k) ∧ (∀ f, f ≠ 6 → f ≠ 7 → f ≠ 8 → M' 53 f = M 53 f) ∧ M' 53 6 = cBe (M (2 + 2 * i)) (M (2 + 2 * j)) ∧ M' 53 7 = cSA (M (2 + 2 * i)) (M (2 + 2 * j)) ∧ M' 53 8 = cSB (M (2 + 2 * i)) (M (2 + 2 * j)) ∧ ∃ z : Int, r = some (vI z) ∧ ((z = 0 ∧ ¬ cIs (M (2 + 2 * i)) (M (2 + 2 * j))) ∨ (z = 1 ∧ cIs (M (2 + 2 * i)) (M (2 + 2 * j))))) := by
  refine cmo [some (vR 53), some (vI (i : Int)), some (vI (j : Int)), none, none, none, none, none, none, none, none, none, none, none, none] ?_
  obtain ⟨a0, a1, a2, a3, a4, a5, a6, -⟩ := hA
  obtain ⟨b0, b1, b2, b3, b4, b5, b6, -⟩ := hB
  obtain ⟨u0, u1, u2, u3, u4, u5, u6, -⟩ := hLA
  obtain ⟨v0, v1, v2, v3, v4, v5, v6, -⟩ := hLB
  have p0 := mb (x := (M (2 + 2 * i)) 3) (z := (M (2 + 2 * j)) 4) 200 200 (by omega) (by omega)
  have p1 := mb (x := (M (2 + 2 * i)) 4) (z := (M (2 + 2 * j)) 3) 200 200 (by omega) (by omega)
  have p2 := mb (x := ((M (2 + 2 * j)) 0 - (M (2 + 2 * i)) 0)) (z := (M (2 + 2 * j)) 4) 200 200 (by omega) (by omega)
  have p3 := mb (x := ((M (2 + 2 * j)) 1 - (M (2 + 2 * i)) 1)) (z := (M (2 + 2 * j)) 3) 200 200 (by omega) (by omega)
  have p4 := mb (x := ((M (2 + 2 * j)) 0 - (M (2 + 2 * i)) 0)) (z := (M (2 + 2 * i)) 4) 200 200 (by omega) (by omega)
  have p5 := mb (x := ((M (2 + 2 * j)) 1 - (M (2 + 2 * i)) 1)) (z := (M (2 + 2 * i)) 3) 200 200 (by omega) (by omega)
  have e21 : M 54 (6 * i + 2) - M 54 (6 * i) = (M (2 + 2 * i)) 3 := by omega
  have e46 : M 54 (6 * i + 3) - M 54 (6 * i + 1) = (M (2 + 2 * i)) 4 := by omega
  have e70 : M 54 (6 * j + 2) - M 54 (6 * j) = (M (2 + 2 * j)) 3 := by omega
  have e96 : M 54 (6 * j + 3) - M 54 (6 * j + 1) = (M (2 + 2 * j)) 4 := by omega
  have e118 : M 54 (6 * j) - M 54 (6 * i) = (M (2 + 2 * j)) 0 - (M (2 + 2 * i)) 0 := by omega
  have e144 : M 54 (6 * j + 1) - M 54 (6 * i + 1) = (M (2 + 2 * j)) 1 - (M (2 + 2 * i)) 1 := by omega
  refine ev_aload_n dX6_meet_0 rfl ?_
  refine em_getR fX6_7.g dX6_meet_1 lay_53 rfl ?_
  refine ev_bipush dX6_meet_4 (by decide) ?_
  refine ev_iload_n dX6_meet_6 rfl ?_
  refine ev_imul dX6_meet_7 ?_
  refine ev_iconst dX6_meet_8 ?_
  refine ev_iadd dX6_meet_9 ?_
  refine en_iald ((6 * i) + 2) dX6_meet_10 lay_54 (by omega) (by omega) ?_
  refine ev_aload_n dX6_meet_11 rfl ?_
  refine em_getR fX6_7.g dX6_meet_12 lay_53 rfl ?_
  refine ev_bipush dX6_meet_15 (by decide) ?_
  refine ev_iload_n dX6_meet_17 rfl ?_
  refine ev_imul dX6_meet_18 ?_
  refine en_iald (6 * i) dX6_meet_19 lay_54 (by omega) (by omega) ?_
  refine ev_isub dX6_meet_20 ?_
  rw [e21]
  refine ev_i2l dX6_meet_21 (by omega) ?_
  refine ev_lstore_n dX6_meet_22 (by decide) ?_
  refine ev_ls [some (vR _), some (vI _), some (vI _), some (vL _), none, none, none, none, none, none, none, none, none, none, none] rfl ?_
  refine ev_aload_n dX6_meet_23 rfl ?_
  refine em_getR fX6_7.g dX6_meet_24 lay_53 rfl ?_
  refine ev_bipush dX6_meet_27 (by decide) ?_
  refine ev_iload_n dX6_meet_29 rfl ?_
  refine ev_imul dX6_meet_30 ?_
  refine ev_iconst dX6_meet_31 ?_
  refine ev_iadd dX6_meet_32 ?_
  refine en_iald ((6 * i) + 3) dX6_meet_33 lay_54 (by omega) (by omega) ?_
  refine ev_aload_n dX6_meet_34 rfl ?_
  refine em_getR fX6_7.g dX6_meet_35 lay_53 rfl ?_
  refine ev_bipush dX6_meet_38 (by decide) ?_
  refine ev_iload_n dX6_meet_40 rfl ?_
  refine ev_imul dX6_meet_41 ?_
  refine ev_iconst dX6_meet_42 ?_
  refine ev_iadd dX6_meet_43 ?_
  refine en_iald ((6 * i) + 1) dX6_meet_44 lay_54 (by omega) (by omega) ?_
  refine ev_isub dX6_meet_45 ?_
  rw [e46]
  refine ev_i2l dX6_meet_46 (by omega) ?_
  refine ev_lstore dX6_meet_47 (by decide) ?_
  refine ev_ls [some (vR _), some (vI _), some (vI _), some (vL _), none, some (vL _), none, none, none, none, none, none, none, none, none] rfl ?_
  refine ev_aload_n dX6_meet_49 rfl ?_
  refine em_getR fX6_7.g dX6_meet_50 lay_53 rfl ?_
  refine ev_bipush dX6_meet_53 (by decide) ?_
  refine ev_iload_n dX6_meet_55 rfl ?_
  refine ev_imul dX6_meet_56 ?_
  refine ev_iconst dX6_meet_57 ?_
  refine ev_iadd dX6_meet_58 ?_
  refine en_iald ((6 * j) + 2) dX6_meet_59 lay_54 (by omega) (by omega) ?_
  refine ev_aload_n dX6_meet_60 rfl ?_
  refine em_getR fX6_7.g dX6_meet_61 lay_53 rfl ?_
  refine ev_bipush dX6_meet_64 (by decide) ?_
  refine ev_iload_n dX6_meet_66 rfl ?_
  refine ev_imul dX6_meet_67 ?_
  refine en_iald (6 * j) dX6_meet_68 lay_54 (by omega) (by omega) ?_
  refine ev_isub dX6_meet_69 ?_
  rw [e70]
  refine ev_i2l dX6_meet_70 (by omega) ?_
  refine ev_lstore dX6_meet_71 (by decide) ?_
  refine ev_ls [some (vR _), some (vI _), some (vI _), some (vL _), none, some (vL _), none, some (vL _), none, none, none, none, none, none, none] rfl ?_
  refine ev_aload_n dX6_meet_73 rfl ?_
  refine em_getR fX6_7.g dX6_meet_74 lay_53 rfl ?_
  refine ev_bipush dX6_meet_77 (by decide) ?_
  refine ev_iload_n dX6_meet_79 rfl ?_
  refine ev_imul dX6_meet_80 ?_
  refine ev_iconst dX6_meet_81 ?_
  refine ev_iadd dX6_meet_82 ?_
  refine en_iald ((6 * j) + 3) dX6_meet_83 lay_54 (by omega) (by omega) ?_
  refine ev_aload_n dX6_meet_84 rfl ?_
  refine em_getR fX6_7.g dX6_meet_85 lay_53 rfl ?_
  refine ev_bipush dX6_meet_88 (by decide) ?_
  refine ev_iload_n dX6_meet_90 rfl ?_
  refine ev_imul dX6_meet_91 ?_
  refine ev_iconst dX6_meet_92 ?_
  refine ev_iadd dX6_meet_93 ?_
  refine en_iald ((6 * j) + 1) dX6_meet_94 lay_54 (by omega) (by omega) ?_
  refine ev_isub dX6_meet_95 ?_
  rw [e96]
  refine ev_i2l dX6_meet_96 (by omega) ?_
  refine ev_lstore dX6_meet_97 (by decide) ?_
  refine ev_ls [some (vR _), some (vI _), some (vI _), some (vL _), none, some (vL _), none, some (vL _), none, some (vL _), none, none, none, none, none] rfl ?_
  refine ev_aload_n dX6_meet_99 rfl ?_
  refine em_getR fX6_7.g dX6_meet_100 lay_53 rfl ?_
  refine ev_bipush dX6_meet_103 (by decide) ?_
  refine ev_iload_n dX6_meet_105 rfl ?_
  refine ev_imul dX6_meet_106 ?_
  refine en_iald (6 * j) dX6_meet_107 lay_54 (by omega) (by omega) ?_
  refine ev_aload_n dX6_meet_108 rfl ?_
  refine em_getR fX6_7.g dX6_meet_109 lay_53 rfl ?_
  refine ev_bipush dX6_meet_112 (by decide) ?_
  refine ev_iload_n dX6_meet_114 rfl ?_
  refine ev_imul dX6_meet_115 ?_
  refine en_iald (6 * i) dX6_meet_116 lay_54 (by omega) (by omega) ?_
  refine ev_isub dX6_meet_117 ?_
  rw [e118]
  refine ev_i2l dX6_meet_118 (by omega) ?_
  refine ev_lstore dX6_meet_119 (by decide) ?_
  refine ev_ls [some (vR _), some (vI _), some (vI _), some (vL _), none, some (vL _), none, some (vL _), none, some (vL _), none, some (vL _), none, none, none] rfl ?_
  refine ev_aload_n dX6_meet_121 rfl ?_
  refine em_getR fX6_7.g dX6_meet_122 lay_53 rfl ?_
  refine ev_bipush dX6_meet_125 (by decide) ?_
  refine ev_iload_n dX6_meet_127 rfl ?_
  refine ev_imul dX6_meet_128 ?_
  refine ev_iconst dX6_meet_129 ?_
  refine ev_iadd dX6_meet_130 ?_
  refine en_iald ((6 * j) + 1) dX6_meet_131 lay_54 (by omega) (by omega) ?_
  refine ev_aload_n dX6_meet_132 rfl ?_
  refine em_getR fX6_7.g dX6_meet_133 lay_53 rfl ?_
  refine ev_bipush dX6_meet_136 (by decide) ?_
  refine ev_iload_n dX6_meet_138 rfl ?_
  refine ev_imul dX6_meet_139 ?_
  refine ev_iconst dX6_meet_140 ?_
  refine ev_iadd dX6_meet_141 ?_
  refine en_iald ((6 * i) + 1) dX6_meet_142 lay_54 (by omega) (by omega) ?_
  refine ev_isub dX6_meet_143 ?_
  rw [e144]
  refine ev_i2l dX6_meet_144 (by omega) ?_
  refine ev_lstore dX6_meet_145 (by decide) ?_
  refine ev_ls [some (vR _), some (vI _), some (vI _), some (vL _), none, some (vL _), none, some (vL _), none, some (vL _), none, some (vL _), none, some (vL _), none] rfl ?_
  refine ev_aload_n dX6_meet_147 rfl ?_
  refine ev_lload_n dX6_meet_148 rfl ?_
  refine ev_lload dX6_meet_149 rfl ?_
  refine ev_lmul dX6_meet_151 ?_
  refine ev_lload dX6_meet_152 rfl ?_
  refine ev_lload dX6_meet_154 rfl ?_
  refine ev_lmul dX6_meet_156 ?_
  refine ev_lsub dX6_meet_157 ?_
  refine em_putL fX6_69 dX6_meet_158 lay_53 rfl ?_
  refine ev_aload_n dX6_meet_161 rfl ?_
  refine ev_lload dX6_meet_162 rfl ?_
  refine ev_lload dX6_meet_164 rfl ?_
  refine ev_lmul dX6_meet_166 ?_
  refine ev_lload dX6_meet_167 rfl ?_
  refine ev_lload dX6_meet_169 rfl ?_
  refine ev_lmul dX6_meet_171 ?_
  refine ev_lsub dX6_meet_172 ?_
  refine em_putL fX6_73 dX6_meet_173 lay_53 rfl ?_
  refine ev_aload_n dX6_meet_176 rfl ?_
  refine ev_lload dX6_meet_177 rfl ?_
  refine ev_lload dX6_meet_179 rfl ?_
  refine ev_lmul dX6_meet_181 ?_
  refine ev_lload dX6_meet_182 rfl ?_
  refine ev_lload_n dX6_meet_184 rfl ?_
  refine ev_lmul dX6_meet_185 ?_
  refine ev_lsub dX6_meet_186 ?_
  refine em_putL fX6_76 dX6_meet_187 lay_53 rfl ?_
  refine ev_mem (fun M1 hM1 => ?_)
  have k1 : ∀ k, k ≠ 53 → M1 k = M k := fun k hk => by rw [hM1, up2_row _ _ _ _ hk, up2_row _ _ _ _ hk, up2_row _ _ _ _ hk]
  have k2 : ∀ f, f ≠ 6 → f ≠ 7 → f ≠ 8 → M1 53 f = M 53 f := fun f h6 h7 h8 => by rw [hM1, up2_ne _ _ _ _ (Or.inr h8), up2_ne _ _ _ _ (Or.inr h7), up2_ne _ _ _ _ (Or.inr h6)]
  have g1 : M1 53 6 = (M (2 + 2 * i)) 3 * (M (2 + 2 * j)) 4 - (M (2 + 2 * i)) 4 * (M (2 + 2 * j)) 3 := by rw [hM1, up2_ne _ _ _ _ (Or.inr (by omega)), up2_ne _ _ _ _ (Or.inr (by omega)), up2_same]
  have g2 : M1 53 7 = ((M (2 + 2 * j)) 0 - (M (2 + 2 * i)) 0) * (M (2 + 2 * j)) 4 - ((M (2 + 2 * j)) 1 - (M (2 + 2 * i)) 1) * (M (2 + 2 * j)) 3 := by rw [hM1, up2_ne _ _ _ _ (Or.inr (by omega)), up2_same]
  have g3 : M1 53 8 = ((M (2 + 2 * j)) 0 - (M (2 + 2 * i)) 0) * (M (2 + 2 * i)) 4 - ((M (2 + 2 * j)) 1 - (M (2 + 2 * i)) 1) * (M (2 + 2 * i)) 3 := by rw [hM1, up2_same]
  clear hM1
  have hsg : cSg (M (2 + 2 * i)) (M (2 + 2 * j)) = if ((M (2 + 2 * i)) 3 * (M (2 + 2 * j)) 4 - (M (2 + 2 * i)) 4 * (M (2 + 2 * j)) 3) < 0 then -1 else 1 := rfl
  refine ev_aload_n dX6_meet_190 rfl ?_
  refine em_getL fX6_69.g dX6_meet_191 lay_53 rfl ?_
  refine ev_lconst0 dX6_meet_194 ?_
  refine ev_lcmp_ge 226 dX6_meet_195 dX6_meet_196 (by omega) (by omega) (fun c1 => ?_) (fun c1 => ?_)
  · rw [if_neg (by omega)] at hsg
    have x1 : M1 53 6 = cBe (M (2 + 2 * i)) (M (2 + 2 * j)) := by rw [g1]; unfold cBe cTu; rw [hsg]; omega
    have x2 : M1 53 7 = cSA (M (2 + 2 * i)) (M (2 + 2 * j)) := by rw [g2]; unfold cSA; rw [hsg]; omega
    have x3 : M1 53 8 = cSB (M (2 + 2 * i)) (M (2 + 2 * j)) := by rw [g3]; unfold cSB; rw [hsg]; omega
    have w1 : -80000 ≤ M1 53 6 ∧ M1 53 6 ≤ 80000 := by rw [x1]; unfold cBe cTu; rw [hsg]; omega
    have w2 : -80000 ≤ M1 53 7 ∧ M1 53 7 ≤ 80000 := by rw [x2]; unfold cSA; rw [hsg]; omega
    have w3 : -80000 ≤ M1 53 8 ∧ M1 53 8 ≤ 80000 := by rw [x3]; unfold cSB; rw [hsg]; omega
    have w0 : 0 ≤ M1 53 6 := by rw [x1]; unfold cBe cTu; rw [hsg]; omega
    refine ev_aload_n dX6_meet_226 rfl ?_
    refine em_getL fX6_69.g dX6_meet_227 lay_53 rfl ?_
    refine ev_lconst0 dX6_meet_230 ?_
    refine ev_lcmp_le 269 dX6_meet_231 dX6_meet_232 (by omega) (by omega) (fun c231 => ?_) (fun c231 => ?_)
    · refine ev_iconst dX6_meet_269 ?_
      exact em_zret dX6_meet_270 (by omega) ⟨k1, k2, x1, x2, x3, _, rfl, by unfold cIs; omega⟩
    · refine ev_aload_n dX6_meet_235 rfl ?_
      refine em_getL fX6_73.g dX6_meet_236 lay_53 rfl ?_
      refine ev_lconst0 dX6_meet_239 ?_
      refine ev_aload_n dX6_meet_240 rfl ?_
      refine em_getL fX6_69.g dX6_meet_241 lay_53 rfl ?_
      refine em_S3 (d_in l _ (by omega) (by omega) (by omega)) mX6_44 dX6_meet_244 ?_
      rintro r M1 ⟨rfl, z244, rfl, h244⟩
      refine ev_if_eq 269 dX6_meet_247 (by omega) (fun c247 => ?_) (fun c247 => ?_)
      · refine ev_iconst dX6_meet_269 ?_
        exact em_zret dX6_meet_270 (by omega) ⟨k1, k2, x1, x2, x3, _, rfl, by unfold cIs; omega⟩
      · refine ev_aload_n dX6_meet_250 rfl ?_
        refine em_getL fX6_76.g dX6_meet_251 lay_53 rfl ?_
        refine ev_lconst0 dX6_meet_254 ?_
        refine ev_aload_n dX6_meet_255 rfl ?_
        refine em_getL fX6_69.g dX6_meet_256 lay_53 rfl ?_
        refine em_S3 (d_in l _ (by omega) (by omega) (by omega)) mX6_44 dX6_meet_259 ?_
        rintro r M1 ⟨rfl, z259, rfl, h259⟩
        refine ev_if_eq 269 dX6_meet_262 (by omega) (fun c262 => ?_) (fun c262 => ?_)
        · refine ev_iconst dX6_meet_269 ?_
          exact em_zret dX6_meet_270 (by omega) ⟨k1, k2, x1, x2, x3, _, rfl, by unfold cIs; omega⟩
        · refine ev_iconst dX6_meet_265 ?_
          refine ev_goto 270 dX6_meet_266 ?_
          exact em_zret dX6_meet_270 (by omega) ⟨k1, k2, x1, x2, x3, _, rfl, by unfold cIs; omega⟩
  · rw [if_pos (by omega)] at hsg
    refine ev_aload_n dX6_meet_199 rfl ?_
    refine ev_aload_n dX6_meet_200 rfl ?_
    refine em_getL fX6_69.g dX6_meet_201 lay_53 rfl ?_
    refine ev_lneg dX6_meet_204 ?_
    refine em_putL fX6_69 dX6_meet_205 lay_53 rfl ?_
    refine ev_aload_n dX6_meet_208 rfl ?_
    refine ev_aload_n dX6_meet_209 rfl ?_
    refine em_getL fX6_73.g dX6_meet_210 lay_53 rfl ?_
    refine ev_lneg dX6_meet_213 ?_
    refine em_putL fX6_73 dX6_meet_214 lay_53 rfl ?_
    refine ev_aload_n dX6_meet_217 rfl ?_
    refine ev_aload_n dX6_meet_218 rfl ?_
    refine em_getL fX6_76.g dX6_meet_219 lay_53 rfl ?_
    refine ev_lneg dX6_meet_222 ?_
    refine em_putL fX6_76 dX6_meet_223 lay_53 rfl ?_
    refine ev_mem (fun M2 hM2 => ?_)
    replace k2 : ∀ f, f ≠ 6 → f ≠ 7 → f ≠ 8 → M2 53 f = M 53 f := fun f h6 h7 h8 => by rw [hM2, up2_ne _ _ _ _ (Or.inr h8), up2_ne _ _ _ _ (Or.inr h7), up2_ne _ _ _ _ (Or.inr h6), k2 f h6 h7 h8]
    have x1 : M2 53 6 = cBe (M (2 + 2 * i)) (M (2 + 2 * j)) := by rw [hM2, up2_ne _ _ _ _ (Or.inr (by omega)), up2_ne _ _ _ _ (Or.inr (by omega)), up2_same, g1]; unfold cBe cTu; rw [hsg]; omega
    have x2 : M2 53 7 = cSA (M (2 + 2 * i)) (M (2 + 2 * j)) := by rw [hM2, up2_ne _ _ _ _ (Or.inr (by omega)), up2_same, up2_ne _ _ _ _ (Or.inr (by omega)), g2]; unfold cSA; rw [hsg]; omega
    have x3 : M2 53 8 = cSB (M (2 + 2 * i)) (M (2 + 2 * j)) := by rw [hM2, up2_same, up2_ne _ _ _ _ (Or.inr (by omega)), up2_ne _ _ _ _ (Or.inr (by omega)), g3]; unfold cSB; rw [hsg]; omega
    replace k1 : ∀ k, k ≠ 53 → M2 k = M k := fun k hk => by rw [hM2, up2_row _ _ _ _ hk, up2_row _ _ _ _ hk, up2_row _ _ _ _ hk, k1 k hk]
    clear hM2
    have w1 : -80000 ≤ M2 53 6 ∧ M2 53 6 ≤ 80000 := by rw [x1]; unfold cBe cTu; rw [hsg]; omega
    have w2 : -80000 ≤ M2 53 7 ∧ M2 53 7 ≤ 80000 := by rw [x2]; unfold cSA; rw [hsg]; omega
    have w3 : -80000 ≤ M2 53 8 ∧ M2 53 8 ≤ 80000 := by rw [x3]; unfold cSB; rw [hsg]; omega
    have w0 : 0 ≤ M2 53 6 := by rw [x1]; unfold cBe cTu; rw [hsg]; omega
    refine ev_aload_n dX6_meet_226 rfl ?_
    refine em_getL fX6_69.g dX6_meet_227 lay_53 rfl ?_
    refine ev_lconst0 dX6_meet_230 ?_
    refine ev_lcmp_le 269 dX6_meet_231 dX6_meet_232 (by omega) (by omega) (fun c231 => ?_) (fun c231 => ?_)
    · refine ev_iconst dX6_meet_269 ?_
      exact em_zret dX6_meet_270 (by omega) ⟨k1, k2, x1, x2, x3, _, rfl, by unfold cIs; omega⟩
    · refine ev_aload_n dX6_meet_235 rfl ?_
      refine em_getL fX6_73.g dX6_meet_236 lay_53 rfl ?_
      refine ev_lconst0 dX6_meet_239 ?_
      refine ev_aload_n dX6_meet_240 rfl ?_
      refine em_getL fX6_69.g dX6_meet_241 lay_53 rfl ?_
      refine em_S3 (d_in l _ (by omega) (by omega) (by omega)) mX6_44 dX6_meet_244 ?_
      rintro r M2 ⟨rfl, z244, rfl, h244⟩
      refine ev_if_eq 269 dX6_meet_247 (by omega) (fun c247 => ?_) (fun c247 => ?_)
      · refine ev_iconst dX6_meet_269 ?_
        exact em_zret dX6_meet_270 (by omega) ⟨k1, k2, x1, x2, x3, _, rfl, by unfold cIs; omega⟩
      · refine ev_aload_n dX6_meet_250 rfl ?_
        refine em_getL fX6_76.g dX6_meet_251 lay_53 rfl ?_
        refine ev_lconst0 dX6_meet_254 ?_
        refine ev_aload_n dX6_meet_255 rfl ?_
        refine em_getL fX6_69.g dX6_meet_256 lay_53 rfl ?_
        refine em_S3 (d_in l _ (by omega) (by omega) (by omega)) mX6_44 dX6_meet_259 ?_
        rintro r M2 ⟨rfl, z259, rfl, h259⟩
        refine ev_if_eq 269 dX6_meet_262 (by omega) (fun c262 => ?_) (fun c262 => ?_)
        · refine ev_iconst dX6_meet_269 ?_
          exact em_zret dX6_meet_270 (by omega) ⟨k1, k2, x1, x2, x3, _, rfl, by unfold cIs; omega⟩
        · refine ev_iconst dX6_meet_265 ?_
          refine ev_goto 270 dX6_meet_266 ?_
          exact em_zret dX6_meet_270 (by omega) ⟨k1, k2, x1, x2, x3, _, rfl, by unfold cIs; omega⟩
set_option maxRecDepth 100000 in
set_option maxHeartbeats 4000000 in
theorem d_hasHeight (l : Launch) {M : Mem} {i : Nat} {sh : Int} (hi : i < 8) (hT : TR M i) (hL : LK M i) (hb : 0 < M 53 6) (hb2 : M 53 6 ≤ 80000) (h0 : 0 ≤ sh) (h1 : sh ≤ M 53 6) : Cm l yX6_hasHeight cX6_hasHeight 11 (some .boolean) 0 0 [vR 53, vI (i : Int), vL sh] M (fun r M' => M' = up2 M 53 9 (hV (M (2 + 2 * i + 1)) sh (M 53 6)) ∧ ∃ z : Int, r = some (vI z) ∧ ((z = 0 ∧ ¬ hasH (M (2 + 2 * i + 1)) sh (M 53 6)) ∨ (z = 1 ∧ hasH (M (2 + 2 * i + 1)) sh (M 53 6)))) := by
  refine cmo [some (vR 53), some (vI (i : Int)), some (vL sh), none, none, none, none, none, none, none, none] ?_
  obtain ⟨f1, f2, f3, f4, f5, f6, f7⟩ := h_facts hb h0 h1
  have hx := hT.2.2.2.2.2.2.2
  have hy := hL.2.2.2.2.2.2.2
  have ha := hx (hI sh (M 53 6)) (by omega)
  have hya := hy (hI sh (M 53 6)) (by omega)
  have hp1 : i32 (hI sh (M 53 6) : Int) := by omega
  refine ev_ldc2 (8) kX6_62 dX6_hasHeight_0 (by decide) ?_
  refine ev_lload_n dX6_hasHeight_3 rfl ?_
  refine ev_lmul dX6_hasHeight_4 ?_
  refine ev_aload_n dX6_hasHeight_5 rfl ?_
  refine em_getL fX6_69.g dX6_hasHeight_6 lay_53 rfl ?_
  refine ev_ldiv dX6_hasHeight_9 (by omega) (by omega) (by omega) ?_
  rw [f1]
  refine ev_l2i dX6_hasHeight_10 ?_
  refine ev_istore dX6_hasHeight_11 (by decide) ?_
  refine ev_ls [some (vR _), some (vI _), some (vL _), none, some (vI _), none, none, none, none, none, none] rfl ?_
  refine ev_ldc2 (8) kX6_62 dX6_hasHeight_13 (by decide) ?_
  refine ev_lload_n dX6_hasHeight_16 rfl ?_
  refine ev_lmul dX6_hasHeight_17 ?_
  refine ev_aload_n dX6_hasHeight_18 rfl ?_
  refine em_getL fX6_69.g dX6_hasHeight_19 lay_53 rfl ?_
  refine ev_lrem dX6_hasHeight_22 (by omega) (by omega) (by omega) ?_
  rw [f2]
  refine ev_lstore dX6_hasHeight_23 (by decide) ?_
  refine ev_ls [some (vR _), some (vI _), some (vL _), none, some (vI _), some (vL _), none, none, none, none, none] rfl ?_
  refine ev_aload_n dX6_hasHeight_25 rfl ?_
  refine em_getR fX6_13.g dX6_hasHeight_26 lay_53 rfl ?_
  refine ev_bipush dX6_hasHeight_29 (by decide) ?_
  refine ev_iload_n dX6_hasHeight_31 rfl ?_
  refine ev_imul dX6_hasHeight_32 ?_
  refine ev_iload dX6_hasHeight_33 rfl ?_
  refine ev_iadd dX6_hasHeight_35 ?_
  refine en_iald (9 * i + hI sh (M 53 6)) dX6_hasHeight_36 lay_55 (by omega) (by omega) ?_
  rw [hya]
  refine ev_i2l dX6_hasHeight_37 (by omega) ?_
  refine ev_lstore dX6_hasHeight_38 (by decide) ?_
  refine ev_ls [some (vR _), some (vI _), some (vL _), none, some (vI _), some (vL _), none, some (vL _), none, none, none] rfl ?_
  refine ev_lload dX6_hasHeight_40 rfl ?_
  refine ev_lconst0 dX6_hasHeight_42 ?_
  refine ev_lcmp_ne 52 dX6_hasHeight_43 dX6_hasHeight_44 (by omega) (by omega) (fun c43 => ?_) (fun c43 => ?_)
  · have hb2 := hx (hI sh (M 53 6) + 1) (by omega)
    have hyb := hy (hI sh (M 53 6) + 1) (by omega)
    refine ev_aload_n dX6_hasHeight_52 rfl ?_
    refine em_getR fX6_13.g dX6_hasHeight_53 lay_53 rfl ?_
    refine ev_bipush dX6_hasHeight_56 (by decide) ?_
    refine ev_iload_n dX6_hasHeight_58 rfl ?_
    refine ev_imul dX6_hasHeight_59 ?_
    refine ev_iload dX6_hasHeight_60 rfl ?_
    refine ev_iadd dX6_hasHeight_62 ?_
    refine ev_iconst dX6_hasHeight_63 ?_
    refine ev_iadd dX6_hasHeight_64 ?_
    refine en_iald (9 * i + (hI sh (M 53 6) + 1)) dX6_hasHeight_65 lay_55 (by omega) (by omega) ?_
    rw [hyb]
    refine ev_i2l dX6_hasHeight_66 (by omega) ?_
    have hval : hV (M (2 + 2 * i + 1)) sh (M 53 6) = M (2 + 2 * i + 1) (hI sh (M 53 6)) * (M 53 6 - hR sh (M 53 6)) + M (2 + 2 * i + 1) (hI sh (M 53 6) + 1) * hR sh (M 53 6) := by unfold hV; rw [if_neg (by omega)]
    refine ev_lstore dX6_hasHeight_67 (by decide) ?_
    refine ev_ls [some (vR _), some (vI _), some (vL _), none, some (vI _), some (vL _), none, some (vL _), none, some (vL _), none] rfl ?_
    refine ev_aload_n dX6_hasHeight_69 rfl ?_
    refine ev_lload dX6_hasHeight_70 rfl ?_
    refine ev_aload_n dX6_hasHeight_72 rfl ?_
    refine em_getL fX6_69.g dX6_hasHeight_73 lay_53 rfl ?_
    refine ev_lload dX6_hasHeight_76 rfl ?_
    refine ev_lsub dX6_hasHeight_78 ?_
    refine ev_lmul dX6_hasHeight_79 ?_
    refine ev_lload dX6_hasHeight_80 rfl ?_
    refine ev_lload dX6_hasHeight_82 rfl ?_
    refine ev_lmul dX6_hasHeight_84 ?_
    refine ev_ladd dX6_hasHeight_85 ?_
    refine em_putL fX6_79 dX6_hasHeight_86 lay_53 rfl ?_
    refine ev_lload dX6_hasHeight_89 rfl ?_
    refine ev_ldc2 (200000) kX6_82 dX6_hasHeight_91 (by decide) ?_
    refine ev_lcmp_eq 111 dX6_hasHeight_94 dX6_hasHeight_95 (by omega) (by omega) (fun c94 => ?_) (fun c94 => ?_)
    · refine ev_iconst dX6_hasHeight_111 ?_
      exact em_zret dX6_hasHeight_112 (by omega) ⟨by rw [hval], _, rfl, by unfold hasH; first | exact Or.inl ⟨rfl, fun q => by have q1 := q.1; have q2 := q.2; omega⟩ | exact Or.inr ⟨rfl, by omega, fun q => by omega⟩⟩
    · refine ev_lload dX6_hasHeight_98 rfl ?_
      refine ev_ldc2 (200000) kX6_82 dX6_hasHeight_100 (by decide) ?_
      refine ev_lcmp_eq 111 dX6_hasHeight_103 dX6_hasHeight_104 (by omega) (by omega) (fun c103 => ?_) (fun c103 => ?_)
      · refine ev_iconst dX6_hasHeight_111 ?_
        exact em_zret dX6_hasHeight_112 (by omega) ⟨by rw [hval], _, rfl, by unfold hasH; first | exact Or.inl ⟨rfl, fun q => by have q1 := q.1; have q2 := q.2; omega⟩ | exact Or.inr ⟨rfl, by omega, fun q => by omega⟩⟩
      · refine ev_iconst dX6_hasHeight_107 ?_
        refine ev_goto 112 dX6_hasHeight_108 ?_
        exact em_zret dX6_hasHeight_112 (by omega) ⟨by rw [hval], _, rfl, by unfold hasH; first | exact Or.inl ⟨rfl, fun q => by have q1 := q.1; have q2 := q.2; omega⟩ | exact Or.inr ⟨rfl, by omega, fun q => by omega⟩⟩
  · refine ev_lload dX6_hasHeight_47 rfl ?_
    refine ev_goto 67 dX6_hasHeight_49 ?_
    have hval : hV (M (2 + 2 * i + 1)) sh (M 53 6) = M (2 + 2 * i + 1) (hI sh (M 53 6)) * (M 53 6 - hR sh (M 53 6)) + M (2 + 2 * i + 1) (hI sh (M 53 6)) * hR sh (M 53 6) := by unfold hV; rw [if_pos (by omega)]
    refine ev_lstore dX6_hasHeight_67 (by decide) ?_
    refine ev_ls [some (vR _), some (vI _), some (vL _), none, some (vI _), some (vL _), none, some (vL _), none, some (vL _), none] rfl ?_
    refine ev_aload_n dX6_hasHeight_69 rfl ?_
    refine ev_lload dX6_hasHeight_70 rfl ?_
    refine ev_aload_n dX6_hasHeight_72 rfl ?_
    refine em_getL fX6_69.g dX6_hasHeight_73 lay_53 rfl ?_
    refine ev_lload dX6_hasHeight_76 rfl ?_
    refine ev_lsub dX6_hasHeight_78 ?_
    refine ev_lmul dX6_hasHeight_79 ?_
    refine ev_lload dX6_hasHeight_80 rfl ?_
    refine ev_lload dX6_hasHeight_82 rfl ?_
    refine ev_lmul dX6_hasHeight_84 ?_
    refine ev_ladd dX6_hasHeight_85 ?_
    refine em_putL fX6_79 dX6_hasHeight_86 lay_53 rfl ?_
    refine ev_lload dX6_hasHeight_89 rfl ?_
    refine ev_ldc2 (200000) kX6_82 dX6_hasHeight_91 (by decide) ?_
    refine ev_lcmp_eq 111 dX6_hasHeight_94 dX6_hasHeight_95 (by omega) (by omega) (fun c94 => ?_) (fun c94 => ?_)
    · refine ev_iconst dX6_hasHeight_111 ?_
      exact em_zret dX6_hasHeight_112 (by omega) ⟨by rw [hval], _, rfl, by unfold hasH; first | exact Or.inl ⟨rfl, fun q => by have q1 := q.1; have q2 := q.2; omega⟩ | exact Or.inr ⟨rfl, by omega, fun q => by omega⟩⟩
    · refine ev_lload dX6_hasHeight_98 rfl ?_
      refine ev_ldc2 (200000) kX6_82 dX6_hasHeight_100 (by decide) ?_
      refine ev_lcmp_eq 111 dX6_hasHeight_103 dX6_hasHeight_104 (by omega) (by omega) (fun c103 => ?_) (fun c103 => ?_)
      · refine ev_iconst dX6_hasHeight_111 ?_
        exact em_zret dX6_hasHeight_112 (by omega) ⟨by rw [hval], _, rfl, by unfold hasH; first | exact Or.inl ⟨rfl, fun q => by have q1 := q.1; have q2 := q.2; omega⟩ | exact Or.inr ⟨rfl, by omega, fun q => by omega⟩⟩
      · refine ev_iconst dX6_hasHeight_107 ?_
        refine ev_goto 112 dX6_hasHeight_108 ?_
        exact em_zret dX6_hasHeight_112 (by omega) ⟨by rw [hval], _, rfl, by unfold hasH; first | exact Or.inl ⟨rfl, fun q => by have q1 := q.1; have q2 := q.2; omega⟩ | exact Or.inr ⟨rfl, by omega, fun q => by omega⟩⟩
end
section
/-! sums -/
def sm : Nat → (Nat → Int) → Int
  | 0, _ => 0
  | n + 1, f => sm n f + f n
theorem sm_congr {f g : Nat → Int} : ∀ {n : Nat}, (∀ i, i < n → f i = g i) → sm n f = sm n g
  | 0, _ => rfl
  | n + 1, h => by
    show sm n f + f n = sm n g + g n
    rw [sm_congr (n := n) (fun i hi => h i (by omega)), h n (by omega)]
theorem sm_add (f g : Nat → Int) : ∀ n : Nat, sm n (fun i => f i + g i) = sm n f + sm n g
  | 0 => rfl
  | n + 1 => by
    show sm n _ + (f n + g n) = (sm n f + f n) + (sm n g + g n)
    rw [sm_add f g n]; omega
theorem sm_sub (f g : Nat → Int) : ∀ n : Nat, sm n (fun i => f i - g i) = sm n f - sm n g
  | 0 => rfl
  | n + 1 => by
    show sm n _ + (f n - g n) = (sm n f + f n) - (sm n g + g n)
    rw [sm_sub f g n]; omega
theorem sm_mul (c : Int) (f : Nat → Int) : ∀ n : Nat, sm n (fun i => c * f i) = c * sm n f
  | 0 => by simp [sm]
  | n + 1 => by
    show sm n _ + c * f n = c * (sm n f + f n)
    rw [sm_mul c f n, Int.mul_add]
theorem sm_mulr (c : Int) (f : Nat → Int) (n : Nat) : sm n (fun i => f i * c) = sm n f * c := by
  rw [Int.mul_comm, ← sm_mul]
  exact sm_congr (fun i _ => Int.mul_comm _ _)
theorem sm_zero {f : Nat → Int} : ∀ {n : Nat}, (∀ i, i < n → f i = 0) → sm n f = 0
  | 0, _ => rfl
  | n + 1, h => by
    show sm n f + f n = 0
    rw [sm_zero (n := n) (fun i hi => h i (by omega)), h n (by omega)]; rfl
theorem sm_neg (f : Nat → Int) : ∀ n : Nat, sm n (fun i => -f i) = -sm n f
  | 0 => rfl
  | n + 1 => by
    show sm n _ + -f n = -(sm n f + f n)
    rw [sm_neg f n]; omega
theorem sm_comm (f : Nat → Nat → Int) (m : Nat) : ∀ n : Nat, sm n (fun i => sm m (fun j => f i j)) = sm m (fun j => sm n (fun i => f i j))
  | 0 => (sm_zero (fun _ _ => rfl)).symm
  | n + 1 => by
    show sm n _ + sm m _ = _
    rw [sm_comm f m n, ← sm_add]
    rfl
theorem sm_le {f g : Nat → Int} : ∀ {n : Nat}, (∀ i, i < n → f i ≤ g i) → sm n f ≤ sm n g
  | 0, _ => Int.le_refl _
  | n + 1, h => by
    have h1 := sm_le (n := n) (fun i hi => h i (by omega))
    have h2 := h n (by omega)
    show sm n f + f n ≤ sm n g + g n
    omega
theorem sm_nonneg {f : Nat → Int} {n : Nat} (h : ∀ i, i < n → 0 ≤ f i) : 0 ≤ sm n f := by
  have := sm_le (f := fun _ => 0) (g := f) (n := n) h
  rwa [sm_zero (fun _ _ => rfl)] at this
theorem sm_ext {f : Nat → Int} {m : Nat} : ∀ {n : Nat}, m ≤ n → (∀ i, m ≤ i → i < n → f i = 0) → sm n f = sm m f
  | 0, h, _ => by
    have : m = 0 := by omega
    subst this; rfl
  | n + 1, h, hz => by
    by_cases e : m = n + 1
    · subst e; rfl
    · show sm n f + f n = sm m f
      rw [sm_ext (n := n) (by omega) (fun i h1 h2 => hz i h1 (by omega)), hz n (by omega) (by omega)]
      omega
theorem sm_one {f : Nat → Int} {k : Nat} : ∀ {n : Nat}, k < n → (∀ i, i < n → i ≠ k → f i = 0) → sm n f = f k
  | 0, h, _ => by omega
  | n + 1, h, hz => by
    show sm n f + f n = f k
    by_cases e : k = n
    · subst e
      rw [sm_zero (fun i hi => hz i (by omega) (by omega))]; omega
    · rw [sm_one (n := n) (by omega) (fun i h1 h2 => hz i (by omega) h2), hz n (by omega) (by omega)]; omega
/-- the head of a sum taken off -/
theorem sm_head (f : Nat → Int) : ∀ n : Nat, sm (n + 1) f = f 0 + sm n (fun i => f (i + 1))
  | 0 => by simp [sm]
  | n + 1 => by
    show sm (n + 1) f + f (n + 1) = f 0 + (sm n (fun i => f (i + 1)) + f (n + 1))
    rw [sm_head f n]; omega
theorem sm_bd {f : Nat → Int} {c : Int} : ∀ {n : Nat}, (∀ i, i < n → -c ≤ f i ∧ f i ≤ c) → -(n * c) ≤ sm n f ∧ sm n f ≤ n * c
  | 0, _ => by simp [sm]
  | n + 1, h => by
    have h1 := sm_bd (n := n) (fun i hi => h i (by omega))
    have h2 := h n (by omega)
    show -(((n + 1 : Nat) : Int) * c) ≤ sm n f + f n ∧ sm n f + f n ≤ ((n + 1 : Nat) : Int) * c
    have e : ((n + 1 : Nat) : Int) * c = n * c + c := by rw [Int.natCast_succ, Int.add_mul, Int.one_mul]
    rw [e]
    omega
/-- a choice by any proposition -/
noncomputable def cif (p : Prop) (x z : Int) : Int := @ite Int p (Classical.propDecidable p) x z
theorem cif_pos {p : Prop} {x z : Int} (h : p) : cif p x z = x := by unfold cif; exact @if_pos p (Classical.propDecidable p) h Int x z
theorem cif_neg {p : Prop} {x z : Int} (h : ¬ p) : cif p x z = z := by unfold cif; exact @if_neg p (Classical.propDecidable p) h Int x z
theorem cif_congr {p q : Prop} {x z : Int} (h : p ↔ q) : cif p x z = cif q x z := by
  by_cases hp : p
  · rw [cif_pos hp, cif_pos (h.mp hp)]
  · rw [cif_neg hp, cif_neg (fun q => hp (h.mpr q))]
/-- pairs a < b below T: by rows or by columns -/
theorem sm_pairs (F : Nat → Nat → Int) (T : Nat) : sm T (fun b => sm b (fun a => F a b)) = sm T (fun a => sm T (fun b => if a < b then F a b else 0)) := by
  rw [sm_comm]
  apply sm_congr
  intro b hb
  rw [sm_ext (m := b) (n := T) (by omega) (fun i h1 h2 => if_neg (by omega))]
  exact sm_congr (fun a ha => (if_pos ha).symm)
end
section
/-- the tracks' rows, in both objects, are as at the start -/
def EN (M0 M : Mem) : Prop := (∀ k, 2 ≤ k → k < 18 → M k = M0 k) ∧ M 54 = M0 54 ∧ M 55 = M0 55 ∧ M 56 = M0 56
def eD (M : Mem) (a b : Nat) : Prop := dOK (M (2 + 2 * a)) (M (2 + 2 * b)) (M (2 + 2 * a + 1)) (M (2 + 2 * b + 1))
def wD (M : Mem) (a b : Nat) : Int := dV (M (2 + 2 * a)) (M (2 + 2 * b)) (M (2 + 2 * a + 1)) (M (2 + 2 * b + 1))
theorem EN.rf (M : Mem) : EN M M := ⟨fun _ _ _ => rfl, rfl, rfl, rfl⟩
theorem EN.tr {M0 M : Mem} (h : EN M0 M) {t : Nat} (ht : t < 8) (hT : TR M0 t) : TR M t := hT.of (h.1 _ (by omega) (by omega)) (h.1 _ (by omega) (by omega))
theorem EN.lk {M0 M : Mem} (h : EN M0 M) {t : Nat} (ht : t < 8) (hL : LK M0 t) : LK M t := by
  unfold LK at *
  rw [h.2.1, h.2.2.1, h.2.2.2, h.1 (2 + 2 * t) (by omega) (by omega), h.1 (2 + 2 * t + 1) (by omega) (by omega)]
  exact hL
theorem EN.e {M0 M : Mem} (h : EN M0 M) {a b : Nat} (ha : a < 8) (hb : b < 8) : eD M a b = eD M0 a b := by
  unfold eD
  rw [h.1 (2 + 2 * a) (by omega) (by omega), h.1 (2 + 2 * a + 1) (by omega) (by omega), h.1 (2 + 2 * b) (by omega) (by omega), h.1 (2 + 2 * b + 1) (by omega) (by omega)]
theorem EN.w {M0 M : Mem} (h : EN M0 M) {a b : Nat} (ha : a < 8) (hb : b < 8) : wD M a b = wD M0 a b := by
  unfold wD
  rw [h.1 (2 + 2 * a) (by omega) (by omega), h.1 (2 + 2 * a + 1) (by omega) (by omega), h.1 (2 + 2 * b) (by omega) (by omega), h.1 (2 + 2 * b + 1) (by omega) (by omega)]
theorem EN.of {M0 M M' : Mem} (h : EN M0 M) (hk : ∀ k, ((2 ≤ k ∧ k < 18) ∨ (54 ≤ k ∧ k < 57)) → M' k = M k) : EN M0 M' :=
  ⟨fun k h1 h2 => (hk k (Or.inl ⟨h1, h2⟩)).trans (h.1 k h1 h2), (hk 54 (by omega)).trans h.2.1, (hk 55 (by omega)).trans h.2.2.1, (hk 56 (by omega)).trans h.2.2.2⟩
/-- the tracks in their ranges and alike in both objects -/
def GT (M : Mem) (T : Nat) : Prop := T ≤ 8 ∧ ∀ t, t < T → TR M t ∧ LK M t
theorem wD_bd {M : Mem} {T a b : Nat} (hG : GT M T) (ha : a < T) (hb : b < T) (he : eD M a b) : -200000 ≤ wD M a b ∧ wD M a b ≤ 200000 :=
  dV_bd (hG.2 a ha).1.2.2.2.2.2.2.2 (hG.2 b hb).1.2.2.2.2.2.2.2 he (cBe_bd (hG.2 a ha).1 (hG.2 b hb).1).1
theorem hV_big {H : Nat → Int} {sh be : Int} (hH : hOK H) (hb : 0 < be) (h0 : 0 ≤ sh) (h1 : sh ≤ be) : -(200000 * be) ≤ hV H sh be ∧ hV H sh be ≤ 200000 * be := by
  obtain ⟨-, -, -, f4, f5, f6, f7⟩ := h_facts hb h0 h1
  have ha := hH (hI sh be) (by omega)
  by_cases hr : hR sh be = 0
  · rw [hV_0 hr]
    have u1 := Int.mul_le_mul_of_nonneg_right (show H (hI sh be) ≤ 200000 by omega) (show (0 : Int) ≤ be by omega)
    have u2 := Int.mul_le_mul_of_nonneg_right (show -200000 ≤ H (hI sh be) by omega) (show (0 : Int) ≤ be by omega)
    omega
  · have hb2 := hH (hI sh be + 1) (by omega)
    unfold hV
    rw [if_neg hr]
    have u1 := Int.mul_le_mul_of_nonneg_right (show H (hI sh be) ≤ 200000 by omega) (show (0 : Int) ≤ be - hR sh be by omega)
    have u2 := Int.mul_le_mul_of_nonneg_right (show -200000 ≤ H (hI sh be) by omega) (show (0 : Int) ≤ be - hR sh be by omega)
    have u3 := Int.mul_le_mul_of_nonneg_right (show H (hI sh be + 1) ≤ 200000 by omega) f4
    have u4 := Int.mul_le_mul_of_nonneg_right (show -200000 ≤ H (hI sh be + 1) by omega) f4
    omega
set_option maxRecDepth 100000 in
set_option maxHeartbeats 4000000 in
theorem d_differ0 (l : Launch) {M : Mem} {i j : Nat} (hi : i < 8) (hj : j < 8) (hA : TR M i) (hB : TR M j) (hLA : LK M i) (hLB : LK M j) : Cm l yX6_differ cX6_differ 6 (some .boolean) 2 59 [vR 53, vI (i : Int), vI (j : Int)] M (fun r M' => (∀ k, k ≠ 53 → M' k = M k) ∧ (∀ f, f ≠ 6 → f ≠ 7 → f ≠ 8 → f ≠ 9 → f ≠ 10 → M' 53 f = M 53 f) ∧ ∃ z : Int, r = some (vI z) ∧ ((z = 0 ∧ ¬ dOK (M (2 + 2 * i)) (M (2 + 2 * j)) (M (2 + 2 * i + 1)) (M (2 + 2 * j + 1))) ∨ (z = 1 ∧ dOK (M (2 + 2 * i)) (M (2 + 2 * j)) (M (2 + 2 * i + 1)) (M (2 + 2 * j + 1)) ∧ M' 53 10 = dV (M (2 + 2 * i)) (M (2 + 2 * j)) (M (2 + 2 * i + 1)) (M (2 + 2 * j + 1))))) := by
  refine cmo [some (vR 53), some (vI (i : Int)), some (vI (j : Int)), none, none, none] ?_
  obtain ⟨-, -, -, -, -, -, a6, a7⟩ := id hA
  obtain ⟨-, -, -, -, -, -, b6, b7⟩ := id hB
  have u6 := hLA.2.2.2.2.2.2.1
  have v6 := hLB.2.2.2.2.2.2.1
  have hbe := cBe_bd hA hB
  refine ev_aload_n dX6_differ_0 rfl ?_
  refine em_getR fX6_16.g dX6_differ_1 lay_53 rfl ?_
  refine ev_iload_n dX6_differ_4 rfl ?_
  refine en_zald i dX6_differ_5 lay_56 (by omega) (by omega) ?_
  refine ev_if_ne 39 dX6_differ_6 (by omega) (fun c6 => ?_) (fun c6 => ?_)
  · refine ev_iconst dX6_differ_39 ?_
    first | exact em_zret dX6_differ_40 (by omega) ⟨kk, kf, _, rfl, Or.inl ⟨rfl, nope⟩⟩ | exact em_zret dX6_differ_40 (by omega) ⟨fun _ _ => rfl, fun _ _ _ _ _ _ => rfl, _, rfl, Or.inl ⟨rfl, fun q => by have := q.1; have := q.2.1; omega⟩⟩
  · refine ev_aload_n dX6_differ_9 rfl ?_
    refine em_getR fX6_16.g dX6_differ_10 lay_53 rfl ?_
    refine ev_iload_n dX6_differ_13 rfl ?_
    refine en_zald j dX6_differ_14 lay_56 (by omega) (by omega) ?_
    refine ev_if_ne 39 dX6_differ_15 (by omega) (fun c15 => ?_) (fun c15 => ?_)
    · refine ev_iconst dX6_differ_39 ?_
      first | exact em_zret dX6_differ_40 (by omega) ⟨kk, kf, _, rfl, Or.inl ⟨rfl, nope⟩⟩ | exact em_zret dX6_differ_40 (by omega) ⟨fun _ _ => rfl, fun _ _ _ _ _ _ => rfl, _, rfl, Or.inl ⟨rfl, fun q => by have := q.1; have := q.2.1; omega⟩⟩
    · refine ev_aload_n dX6_differ_18 rfl ?_
      refine ev_iload_n dX6_differ_19 rfl ?_
      refine ev_iload_n dX6_differ_20 rfl ?_
      refine em_V2 (d_meet l hi hj hA hB hLA hLB) mX6_92 dX6_differ_21 lay_53 ?_
      rintro r M1 ⟨k21, f21, g1, g2, g3, z21, rfl, h21⟩
      have w0 : 0 ≤ M1 53 6 ∧ M1 53 6 ≤ 80000 := by rw [g1]; exact hbe
      have kk := k21
      have kf : ∀ f, f ≠ 6 → f ≠ 7 → f ≠ 8 → f ≠ 9 → f ≠ 10 → M1 53 f = M 53 f := fun f h6 h7 h8 _ _ => f21 f h6 h7 h8
      have hA2 : TR M1 i := hA.of53 hi k21
      have hB2 : TR M1 j := hB.of53 hj k21
      have hL2 : LK M1 i := hLA.of hi k21
      have hM2 : LK M1 j := hLB.of hj k21
      refine ev_if_eq 39 dX6_differ_24 (by omega) (fun c24 => ?_) (fun c24 => ?_)
      · have nope : ¬ dOK (M (2 + 2 * i)) (M (2 + 2 * j)) (M (2 + 2 * i + 1)) (M (2 + 2 * j + 1)) := fun q => by rcases h21 with h | h; exact h.2 q.2.2.1; omega
        refine ev_iconst dX6_differ_39 ?_
        first | exact em_zret dX6_differ_40 (by omega) ⟨kk, kf, _, rfl, Or.inl ⟨rfl, nope⟩⟩ | exact em_zret dX6_differ_40 (by omega) ⟨fun _ _ => rfl, fun _ _ _ _ _ _ => rfl, _, rfl, Or.inl ⟨rfl, fun q => by have := q.1; have := q.2.1; omega⟩⟩
      · have hcis : cIs (M (2 + 2 * i)) (M (2 + 2 * j)) := by rcases h21 with h | h; omega; exact h.2
        obtain ⟨z0, z1, z2, z3, z4⟩ := id hcis
        refine ev_aload_n dX6_differ_27 rfl ?_
        refine ev_iload_n dX6_differ_28 rfl ?_
        refine ev_aload_n dX6_differ_29 rfl ?_
        refine em_getL fX6_73.g dX6_differ_30 lay_53 rfl ?_
        refine em_V2 (d_hasHeight l hi hA2 hL2 (by omega) (by omega) (by omega) (by omega)) mX6_105 dX6_differ_33 lay_53 ?_
        rintro r M2 ⟨hm33, z33, rfl, h33⟩
        have kk3 : ∀ k, k ≠ 53 → M2 k = M k := fun k hk => by rw [hm33, up2_row _ _ _ _ hk, k21 k hk]
        have kf3 : ∀ f, f ≠ 6 → f ≠ 7 → f ≠ 8 → f ≠ 9 → f ≠ 10 → M2 53 f = M 53 f := fun f h6 h7 h8 h9 h10 => by rw [hm33, up2_ne _ _ _ _ (Or.inr h9), f21 f h6 h7 h8]
        have e2 : M1 (2 + 2 * i + 1) = (M (2 + 2 * i + 1)) := k21 _ (by omega)
        rw [e2, g2, g1] at h33
        have gh : M2 53 9 = hV (M (2 + 2 * i + 1)) (cSA (M (2 + 2 * i)) (M (2 + 2 * j))) (cBe (M (2 + 2 * i)) (M (2 + 2 * j))) := by rw [hm33, up2_same, e2, g2, g1]
        have g6 : M2 53 6 = cBe (M (2 + 2 * i)) (M (2 + 2 * j)) := by rw [hm33, up2_ne _ _ _ _ (Or.inr (by omega)), g1]
        have g8 : M2 53 8 = cSB (M (2 + 2 * i)) (M (2 + 2 * j)) := by rw [hm33, up2_ne _ _ _ _ (Or.inr (by omega)), g3]
        refine ev_if_ne 41 dX6_differ_36 (by omega) (fun c36 => ?_) (fun c36 => ?_)
        · have hasA : hasH (M (2 + 2 * i + 1)) (cSA (M (2 + 2 * i)) (M (2 + 2 * j))) (cBe (M (2 + 2 * i)) (M (2 + 2 * j))) := by rcases h33 with h | h; omega; exact h.2
          have hB3 : TR M2 j := hB.of53 hj kk3
          have hM3 : LK M2 j := hLB.of hj kk3
          clear kk kf
          refine ev_aload_n dX6_differ_41 rfl ?_
          refine em_getL fX6_79.g dX6_differ_42 lay_53 rfl ?_
          refine ev_lstore_n dX6_differ_45 (by decide) ?_
          refine ev_ls [some (vR _), some (vI _), some (vI _), some (vL _), none, none] rfl ?_
          refine ev_aload_n dX6_differ_46 rfl ?_
          refine ev_iload_n dX6_differ_47 rfl ?_
          refine ev_aload_n dX6_differ_48 rfl ?_
          refine em_getL fX6_76.g dX6_differ_49 lay_53 rfl ?_
          refine em_V2 (d_hasHeight l hj hB3 hM3 (by omega) (by omega) (by omega) (by omega)) mX6_105 dX6_differ_52 lay_53 ?_
          rintro r M3 ⟨hm52, z52, rfl, h52⟩
          have kk2' : ∀ k, k ≠ 53 → M3 k = M k := fun k hk => by rw [hm52, up2_row _ _ _ _ hk, kk3 k hk]
          have kf2' : ∀ f, f ≠ 6 → f ≠ 7 → f ≠ 8 → f ≠ 9 → f ≠ 10 → M3 53 f = M 53 f := fun f h6 h7 h8 h9 h10 => by rw [hm52, up2_ne _ _ _ _ (Or.inr h9), kf3 f h6 h7 h8 h9 h10]
          have e4' : M2 (2 + 2 * j + 1) = (M (2 + 2 * j + 1)) := kk3 _ (by omega)
          have gB' := g8
          have g6' := g6
          have gh2 : M3 53 9 = hV (M (2 + 2 * j + 1)) (cSB (M (2 + 2 * i)) (M (2 + 2 * j))) (cBe (M (2 + 2 * i)) (M (2 + 2 * j))) := by rw [hm52, up2_same, e4', g8, g6]
          have g62 : M3 53 6 = cBe (M (2 + 2 * i)) (M (2 + 2 * j)) := by rw [hm52, up2_ne _ _ _ _ (Or.inr (by omega)), g6]
          have q1 := hV_bd a7 (by omega) (by omega) (by omega) hasA
          have q2 := hV_big b7 (show 0 < cBe (M (2 + 2 * i)) (M (2 + 2 * j)) by omega) z3 z4
          refine ev_istore dX6_differ_55 (by decide) ?_
          refine ev_ls [some (vR _), some (vI _), some (vI _), some (vL _), none, some (vI _)] rfl ?_
          refine ev_aload_n dX6_differ_57 rfl ?_
          refine ev_ldc2 (10) kX6_109 dX6_differ_58 (by decide) ?_
          refine ev_lload_n dX6_differ_61 rfl ?_
          refine ev_aload_n dX6_differ_62 rfl ?_
          refine em_getL fX6_79.g dX6_differ_63 lay_53 rfl ?_
          refine ev_lsub dX6_differ_66 ?_
          refine ev_lmul dX6_differ_67 ?_
          refine ev_aload_n dX6_differ_68 rfl ?_
          refine em_getL fX6_69.g dX6_differ_69 lay_53 rfl ?_
          rw [gh, gh2, g62]
          refine em_S2 (d_down l _ (by omega) (by omega)) mX6_111 dX6_differ_72 ?_
          rintro r M3 ⟨rfl, rfl⟩
          refine em_putL fX6_114 dX6_differ_75 lay_53 rfl ?_
          refine ev_mem (fun M4 hM4 => ?_)
          have kk2 : ∀ k, k ≠ 53 → M4 k = M k := fun k hk => by rw [hM4, up2_row _ _ _ _ hk, kk2' k hk]
          have kf2 : ∀ f, f ≠ 6 → f ≠ 7 → f ≠ 8 → f ≠ 9 → f ≠ 10 → M4 53 f = M 53 f := fun f h6 h7 h8 h9 h10 => by rw [hM4, up2_ne _ _ _ _ (Or.inr h10), kf2' f h6 h7 h8 h9 h10]
          have g10 : M4 53 10 = dV (M (2 + 2 * i)) (M (2 + 2 * j)) (M (2 + 2 * i + 1)) (M (2 + 2 * j + 1)) := by rw [hM4, up2_same]; rfl
          refine ev_iload dX6_differ_78 rfl ?_
          exact em_zret dX6_differ_80 (by omega) ⟨kk2, kf2, _, rfl, by rcases h52 with h | h; exact Or.inl ⟨h.1, fun q => h.2 (by rw [e4', gB', g6']; exact q.2.2.2.2)⟩; exact Or.inr ⟨h.1, ⟨by omega, by omega, hcis, hasA, by have := h.2; rw [e4', gB', g6'] at this; exact this⟩, g10⟩⟩
        · have nope : ¬ dOK (M (2 + 2 * i)) (M (2 + 2 * j)) (M (2 + 2 * i + 1)) (M (2 + 2 * j + 1)) := fun q => by rcases h33 with h | h; exact h.2 q.2.2.2.1; omega
          replace kk := kk3
          replace kf := kf3
          refine ev_iconst dX6_differ_39 ?_
          first | exact em_zret dX6_differ_40 (by omega) ⟨kk, kf, _, rfl, Or.inl ⟨rfl, nope⟩⟩ | exact em_zret dX6_differ_40 (by omega) ⟨fun _ _ => rfl, fun _ _ _ _ _ _ => rfl, _, rfl, Or.inl ⟨rfl, fun q => by have := q.1; have := q.2.1; omega⟩⟩
theorem d_differ (l : Launch) {M0 M : Mem} {T i j : Nat} (hE : EN M0 M) (hG : GT M0 T) (hi : i < T) (hj : j < T) : Cm l yX6_differ cX6_differ 6 (some .boolean) 2 59 [vR 53, vI (i : Int), vI (j : Int)] M (fun r M' => (∀ k, k ≠ 53 → M' k = M k) ∧ (∀ f, f ≠ 6 → f ≠ 7 → f ≠ 8 → f ≠ 9 → f ≠ 10 → M' 53 f = M 53 f) ∧ EN M0 M' ∧ ∃ z : Int, r = some (vI z) ∧ ((z = 0 ∧ ¬ eD M0 i j) ∨ (z = 1 ∧ eD M0 i j ∧ M' 53 10 = wD M0 i j))) := by
  have h8 := hG.1
  refine cm_imp ?_ (d_differ0 l (by omega) (by omega) (hE.tr (by omega) (hG.2 i hi).1) (hE.tr (by omega) (hG.2 j hj).1) (hE.lk (by omega) (hG.2 i hi).2) (hE.lk (by omega) (hG.2 j hj).2))
  rintro r M' ⟨h1, h2, z, h3, h4⟩
  refine ⟨h1, h2, hE.of (fun k hk => h1 k (by omega)), z, h3, ?_⟩
  rw [← hE.e (a := i) (b := j) (by omega) (by omega), ← hE.w (a := i) (b := j) (by omega) (by omega)]
  exact h4
end
section
/-- what differ leaves as it was -/
def FR (M M' : Mem) : Prop := (∀ k, k ≠ 53 → M' k = M k) ∧ (∀ f, f ≠ 6 → f ≠ 7 → f ≠ 8 → f ≠ 9 → f ≠ 10 → M' 53 f = M 53 f)
theorem FR.rf (M : Mem) : FR M M := ⟨fun _ _ => rfl, fun _ _ _ _ _ _ => rfl⟩
theorem FR.tr {M M' M'' : Mem} (h : FR M M') (h' : FR M' M'') : FR M M'' := ⟨fun k hk => (h'.1 k hk).trans (h.1 k hk), fun f a b c d e => (h'.2 f a b c d e).trans (h.2 f a b c d e)⟩
theorem FR.en {M0 M M' : Mem} (h : FR M M') (hE : EN M0 M) : EN M0 M' := hE.of (fun k hk => h.1 k (by omega))
theorem FR.n {M M' : Mem} (h : FR M M') : M' 53 0 = M 53 0 := h.2 0 (by omega) (by omega) (by omega) (by omega) (by omega)
theorem smS {n : Nat} {f : Nat → Int} {x : Int} (h : f n = x) : sm n f + x = sm (n + 1) f := by rw [← h]; rfl
noncomputable def sqD (M0 : Mem) (a b : Nat) : Int := cif (eD M0 a b) (wD M0 a b * wD M0 a b) 0
set_option maxRecDepth 100000 in
set_option maxHeartbeats 4000000 in
theorem d_before (l : Launch) {M0 M : Mem} {T : Nat} (hE : EN M0 M) (hG : GT M0 T) (hT : M 53 0 = (T : Int)) : Cm l yX6_before cX6_before 5 (some .long) 3 84 [vR 53] M (fun r M' => FR M M' ∧ r = some (vL (sm T (fun a => sm T (fun b => if a < b then sqD M0 a b else 0))))) := by
  refine cmo [some (vR 53), none, none, none, none] ?_
  have h8 := hG.1
  have outer : ∀ (n : Nat) (a : Nat) (M1 : Mem), T < a + n → a ≤ T → FR M M1 → Em l yX6_before cX6_before 5 (some .long) 3 84 (fun r M' => FR M M' ∧ r = some (vL (sm T (fun a => sm T (fun b => if a < b then sqD M0 a b else 0))))) 4 [some (vR 53), some (vL (sm a (fun a => sm T (fun b => if a < b then sqD M0 a b else 0)))), none, some (vI (a : Int)), none] [] M1 := by
    intro n
    induction n with
    | zero => intro a M1 h1 h2 hF; omega
    | succ n ihouter =>
      intro a M1 h1 h2 hF
      have hN := hF.n
      refine ev_iload_n dX6_before_4 rfl ?_
      refine ev_aload_n dX6_before_5 rfl ?_
      refine em_getI fX6_40.g dX6_before_6 lay_53 rfl ?_
      refine ev_icmp_ge 64 dX6_before_9 (by omega) (by omega) (fun c1 => ?_) (fun c1 => ?_)
      · refine ev_lload_n dX6_before_64 rfl ?_
        have ea : a = T := by omega
        subst ea
        exact em_lret dX6_before_65 ⟨hF, rfl⟩
      · refine ev_iload_n dX6_before_12 rfl ?_
        refine ev_iconst dX6_before_13 ?_
        refine ev_iadd dX6_before_14 ?_
        refine ev_istore dX6_before_15 (by decide) ?_
        refine ev_ls [some (vR _), some (vL _), none, some (vI _), some (vI _)] rfl ?_
        have inner : ∀ (m : Nat) (b : Nat) (M2 : Mem), T < b + m → b ≤ T → a < b → FR M M2 → Em l yX6_before cX6_before 5 (some .long) 3 84 (fun r M' => FR M M' ∧ r = some (vL (sm T (fun a => sm T (fun b => if a < b then sqD M0 a b else 0))))) 17 [some (vR 53), some (vL (sm a (fun a => sm T (fun b => if a < b then sqD M0 a b else 0)) + sm b (fun b => if a < b then sqD M0 a b else 0))), none, some (vI (a : Int)), some (vI (b : Int))] [] M2 := by
          intro m
          induction m with
          | zero => intro b M2 h1 h2 hab hF2; omega
          | succ m ihinner =>
            intro b M2 h1 h2 hab hF2
            have hN := hF2.n
            have hE2 := hF2.en hE
            refine ev_iload dX6_before_17 rfl ?_
            refine ev_aload_n dX6_before_19 rfl ?_
            refine em_getI fX6_40.g dX6_before_20 lay_53 rfl ?_
            refine ev_icmp_ge 58 dX6_before_23 (by omega) (by omega) (fun c2 => ?_) (fun c2 => ?_)
            · have eb : b = T := by omega
              subst eb
              refine ev_iinc dX6_before_58 rfl (by decide) ?_
              refine ev_ls [some (vR _), some (vL _), none, some (vI _), some (vI _)] rfl ?_
              refine ev_goto 4 dX6_before_61 ?_
              refine ev_mask [true, true, true, true, false] ?_
              exact ihouter (a + 1) M2 (by omega) (by omega) hF2
            · refine ev_lload_n dX6_before_26 rfl ?_
              refine ev_aload_n dX6_before_27 rfl ?_
              refine ev_iload_n dX6_before_28 rfl ?_
              refine ev_iload dX6_before_29 rfl ?_
              refine em_V2 (d_differ l hE2 hG (by omega) (by omega)) mX6_118 dX6_before_31 lay_53 ?_
              rintro r M3 ⟨k31, f31, hE31, z31, rfl, hd | hd⟩
              · refine ev_if_eq 49 dX6_before_34 (by omega) (fun c34 => ?_) (fun c34 => ?_)
                · refine ev_lconst0 dX6_before_49 ?_
                  refine ev_ladd dX6_before_50 ?_
                  refine ev_lstore_n dX6_before_51 (by decide) ?_
                  refine ev_ls [some (vR _), some (vL _), none, some (vI _), some (vI _)] rfl ?_
                  refine ev_iinc dX6_before_52 rfl (by decide) ?_
                  refine ev_ls [some (vR _), some (vL _), none, some (vI _), some (vI _)] rfl ?_
                  refine ev_goto 17 dX6_before_55 ?_
                  first | (exfalso; omega) | (rw [hd.2.2, Int.add_assoc, smS (n := b) (f := fun b => if a < b then sqD M0 a b else 0) (show (if a < b then sqD M0 a b else 0) = wD M0 a b * wD M0 a b by rw [if_pos hab]; exact cif_pos hd.2.1)]; exact ihinner (b + 1) M3 (by omega) (by omega) (by omega) (hF2.tr ⟨k31, f31⟩)) | (rw [Int.add_assoc, smS (n := b) (f := fun b => if a < b then sqD M0 a b else 0) (show (if a < b then sqD M0 a b else 0) = 0 by rw [if_pos hab]; exact cif_neg hd.2)]; exact ihinner (b + 1) M3 (by omega) (by omega) (by omega) (hF2.tr ⟨k31, f31⟩))
                · refine ev_aload_n dX6_before_37 rfl ?_
                  refine em_getL fX6_114.g dX6_before_38 lay_53 rfl ?_
                  refine ev_aload_n dX6_before_41 rfl ?_
                  refine em_getL fX6_114.g dX6_before_42 lay_53 rfl ?_
                  refine ev_lmul dX6_before_45 ?_
                  refine ev_goto 50 dX6_before_46 ?_
                  refine ev_ladd dX6_before_50 ?_
                  refine ev_lstore_n dX6_before_51 (by decide) ?_
                  refine ev_ls [some (vR _), some (vL _), none, some (vI _), some (vI _)] rfl ?_
                  refine ev_iinc dX6_before_52 rfl (by decide) ?_
                  refine ev_ls [some (vR _), some (vL _), none, some (vI _), some (vI _)] rfl ?_
                  refine ev_goto 17 dX6_before_55 ?_
                  first | (exfalso; omega) | (rw [hd.2.2, Int.add_assoc, smS (n := b) (f := fun b => if a < b then sqD M0 a b else 0) (show (if a < b then sqD M0 a b else 0) = wD M0 a b * wD M0 a b by rw [if_pos hab]; exact cif_pos hd.2.1)]; exact ihinner (b + 1) M3 (by omega) (by omega) (by omega) (hF2.tr ⟨k31, f31⟩)) | (rw [Int.add_assoc, smS (n := b) (f := fun b => if a < b then sqD M0 a b else 0) (show (if a < b then sqD M0 a b else 0) = 0 by rw [if_pos hab]; exact cif_neg hd.2)]; exact ihinner (b + 1) M3 (by omega) (by omega) (by omega) (hF2.tr ⟨k31, f31⟩))
              · refine ev_if_eq 49 dX6_before_34 (by omega) (fun c34 => ?_) (fun c34 => ?_)
                · refine ev_lconst0 dX6_before_49 ?_
                  refine ev_ladd dX6_before_50 ?_
                  refine ev_lstore_n dX6_before_51 (by decide) ?_
                  refine ev_ls [some (vR _), some (vL _), none, some (vI _), some (vI _)] rfl ?_
                  refine ev_iinc dX6_before_52 rfl (by decide) ?_
                  refine ev_ls [some (vR _), some (vL _), none, some (vI _), some (vI _)] rfl ?_
                  refine ev_goto 17 dX6_before_55 ?_
                  first | (exfalso; omega) | (rw [hd.2.2, Int.add_assoc, smS (n := b) (f := fun b => if a < b then sqD M0 a b else 0) (show (if a < b then sqD M0 a b else 0) = wD M0 a b * wD M0 a b by rw [if_pos hab]; exact cif_pos hd.2.1)]; exact ihinner (b + 1) M3 (by omega) (by omega) (by omega) (hF2.tr ⟨k31, f31⟩)) | (rw [Int.add_assoc, smS (n := b) (f := fun b => if a < b then sqD M0 a b else 0) (show (if a < b then sqD M0 a b else 0) = 0 by rw [if_pos hab]; exact cif_neg hd.2)]; exact ihinner (b + 1) M3 (by omega) (by omega) (by omega) (hF2.tr ⟨k31, f31⟩))
                · refine ev_aload_n dX6_before_37 rfl ?_
                  refine em_getL fX6_114.g dX6_before_38 lay_53 rfl ?_
                  refine ev_aload_n dX6_before_41 rfl ?_
                  refine em_getL fX6_114.g dX6_before_42 lay_53 rfl ?_
                  refine ev_lmul dX6_before_45 ?_
                  refine ev_goto 50 dX6_before_46 ?_
                  refine ev_ladd dX6_before_50 ?_
                  refine ev_lstore_n dX6_before_51 (by decide) ?_
                  refine ev_ls [some (vR _), some (vL _), none, some (vI _), some (vI _)] rfl ?_
                  refine ev_iinc dX6_before_52 rfl (by decide) ?_
                  refine ev_ls [some (vR _), some (vL _), none, some (vI _), some (vI _)] rfl ?_
                  refine ev_goto 17 dX6_before_55 ?_
                  first | (exfalso; omega) | (rw [hd.2.2, Int.add_assoc, smS (n := b) (f := fun b => if a < b then sqD M0 a b else 0) (show (if a < b then sqD M0 a b else 0) = wD M0 a b * wD M0 a b by rw [if_pos hab]; exact cif_pos hd.2.1)]; exact ihinner (b + 1) M3 (by omega) (by omega) (by omega) (hF2.tr ⟨k31, f31⟩)) | (rw [Int.add_assoc, smS (n := b) (f := fun b => if a < b then sqD M0 a b else 0) (show (if a < b then sqD M0 a b else 0) = 0 by rw [if_pos hab]; exact cif_neg hd.2)]; exact ihinner (b + 1) M3 (by omega) (by omega) (by omega) (hF2.tr ⟨k31, f31⟩))
        have hi0 := inner (T + 1) (a + 1) M1 (by omega) (by omega) (by omega) hF
        rw [show sm (a + 1) (fun b => if a < b then sqD M0 a b else 0) = 0 from sm_zero (fun i hi => if_neg (by omega)), Int.add_zero] at hi0
        exact hi0
  refine ev_lconst0 dX6_before_0 ?_
  refine ev_lstore_n dX6_before_1 (by decide) ?_
  refine ev_ls [some (vR _), some (vL _), none, none, none] rfl ?_
  refine ev_iconst dX6_before_2 ?_
  refine ev_istore_n dX6_before_3 (by decide) ?_
  refine ev_ls [some (vR _), some (vL _), none, some (vI _), none] rfl ?_
  exact outer (T + 1) 0 M (by omega) (by omega) (FR.rf M)
def cntN (f : Nat → Int) (c : Int) (T : Nat) : Int := sm T (fun t => if f t = c then 1 else 0)
theorem cntN_bd (f : Nat → Int) (c : Int) (T : Nat) : 0 ≤ cntN f c T ∧ cntN f c T ≤ T := by
  have h1 : ∀ i, i < T → (0 : Int) ≤ (fun t => if f t = c then (1 : Int) else 0) i := fun i _ => by show (0 : Int) ≤ if f i = c then 1 else 0; split <;> omega
  have h2 := sm_bd (f := fun t => if f t = c then (1 : Int) else 0) (c := 1) (n := T) (fun i _ => by show (-1 : Int) ≤ (if f i = c then 1 else 0) ∧ (if f i = c then (1 : Int) else 0) ≤ 1; split <;> omega)
  exact ⟨sm_nonneg h1, by have := h2.2; rw [Int.mul_one] at this; exact this⟩
set_option maxRecDepth 100000 in
set_option maxHeartbeats 4000000 in
theorem d_members (l : Launch) {M : Mem} {T : Nat} {c : Int} (h8 : T ≤ 8) (hT : M 53 0 = (T : Int)) (hc : i32 c) (hn : ∀ t, t < T → i32 (M 58 t)) : Cm l yX6_members cX6_members 4 (some .int) 0 0 [vR 53, vI c] M (rI (cntN (M 58) c T) M) := by
  refine cmo [some (vR 53), some (vI c), none, none] ?_
  have lp : ∀ (n : Nat) (t : Nat), T < t + n → t ≤ T → Em l yX6_members cX6_members 4 (some .int) 0 0 (rI (cntN (M 58) c T) M) 4 [some (vR 53), some (vI c), some (vI (cntN (M 58) c t)), some (vI (t : Int))] [] M := by
    intro n
    induction n with
    | zero => intro t h1 h2; omega
    | succ n ihlp =>
      intro t h1 h2
      have hb := cntN_bd (M 58) c t
      refine ev_iload_n dX6_members_4 rfl ?_
      refine ev_aload_n dX6_members_5 rfl ?_
      refine em_getI fX6_40.g dX6_members_6 lay_53 rfl ?_
      refine ev_icmp_ge 36 dX6_members_9 (by omega) (by omega) (fun c1 => ?_) (fun c1 => ?_)
      · refine ev_iload_n dX6_members_36 rfl ?_
        have et : t = T := by omega
        subst et
        exact em_iret dX6_members_37 ⟨rfl, rfl⟩
      · have hnt := hn t (by omega)
        refine ev_iload_n dX6_members_12 rfl ?_
        refine ev_aload_n dX6_members_13 rfl ?_
        refine em_getR fX6_23.g dX6_members_14 lay_53 rfl ?_
        refine ev_iload_n dX6_members_17 rfl ?_
        refine en_iald t dX6_members_18 lay_58 (by omega) (by omega) ?_
        refine ev_iload_n dX6_members_19 rfl ?_
        refine ev_icmp_ne 27 dX6_members_20 (by omega) (by omega) (fun c20 => ?_) (fun c20 => ?_)
        · refine ev_iconst dX6_members_27 ?_
          refine ev_iadd dX6_members_28 ?_
          refine ev_istore_n dX6_members_29 (by decide) ?_
          refine ev_ls [some (vR _), some (vI _), some (vI _), some (vI _)] rfl ?_
          refine ev_iinc dX6_members_30 rfl (by decide) ?_
          refine ev_ls [some (vR _), some (vI _), some (vI _), some (vI _)] rfl ?_
          refine ev_goto 4 dX6_members_33 ?_
          first | rw [show cntN (M 58) c t + 1 = cntN (M 58) c (t + 1) from smS (show (if M 58 t = c then (1 : Int) else 0) = 1 from if_pos (by omega))] | rw [show cntN (M 58) c t + 0 = cntN (M 58) c (t + 1) from smS (show (if M 58 t = c then (1 : Int) else 0) = 0 from if_neg (by omega))]
          exact ihlp (t + 1) (by omega) (by omega)
        · refine ev_iconst dX6_members_23 ?_
          refine ev_goto 28 dX6_members_24 ?_
          refine ev_iadd dX6_members_28 ?_
          refine ev_istore_n dX6_members_29 (by decide) ?_
          refine ev_ls [some (vR _), some (vI _), some (vI _), some (vI _)] rfl ?_
          refine ev_iinc dX6_members_30 rfl (by decide) ?_
          refine ev_ls [some (vR _), some (vI _), some (vI _), some (vI _)] rfl ?_
          refine ev_goto 4 dX6_members_33 ?_
          first | rw [show cntN (M 58) c t + 1 = cntN (M 58) c (t + 1) from smS (show (if M 58 t = c then (1 : Int) else 0) = 1 from if_pos (by omega))] | rw [show cntN (M 58) c t + 0 = cntN (M 58) c (t + 1) from smS (show (if M 58 t = c then (1 : Int) else 0) = 0 from if_neg (by omega))]
          exact ihlp (t + 1) (by omega) (by omega)
  refine ev_iconst dX6_members_0 ?_
  refine ev_istore_n dX6_members_1 (by decide) ?_
  refine ev_ls [some (vR _), some (vI _), some (vI _), none] rfl ?_
  refine ev_iconst dX6_members_2 ?_
  refine ev_istore_n dX6_members_3 (by decide) ?_
  refine ev_ls [some (vR _), some (vI _), some (vI _), some (vI _)] rfl ?_
  exact lp (T + 1) 0 (by omega) (by omega)
end
section
/-- one step of the model's elimination -/
def cl (m : Nat → Nat → Int) (c n : Nat) (last : Int) (r k : Nat) : Int := if c < r ∧ r < n ∧ k < n ∧ (k = 0 ∨ c ≤ k) then (m r k * m c c - m r c * m c k).tdiv last else m r k
theorem up2_60 {M : Mem} {a b r k : Nat} {x : Int} (ha : a < 8) (hb : b < 8) (hr : r < 8) (hk : k < 8) : up2 M 60 (8 * r + k) x 60 (8 * a + b) = if a = r ∧ b = k then x else M 60 (8 * a + b) := by
  rw [up2_at]
  by_cases h : a = r ∧ b = k
  · rw [if_pos h, if_pos ⟨rfl, by omega⟩]
  · rw [if_neg h, if_neg (by omega)]
set_option maxRecDepth 100000 in
set_option maxHeartbeats 4000000 in
theorem d_clears (l : Launch) {M : Mem} {c n : Nat} {last : Int} (hc : c < n) (hn : n ≤ 8) (hl : i64 last) (hl0 : last ≠ 0) (hR : ∀ r k, c < r → r < n → k < n → (k = 0 ∨ c ≤ k) → i64 (M 60 (8 * r + k) * M 60 (8 * c + c) - M 60 (8 * r + c) * M 60 (8 * c + k))) : Cm l yX6_clears cX6_clears 9 none 0 0 [vR 53, vI (c : Int), vI (n : Int), vL last] M (fun r M' => r = none ∧ (∀ k, k ≠ 60 → M' k = M k) ∧ ∀ r k, r < 8 → k < 8 → M' 60 (8 * r + k) = cl (fun a b => M 60 (8 * a + b)) c n last r k) := by
  refine cmo [some (vR 53), some (vI (c : Int)), some (vI (n : Int)), some (vL last), none, none, none, none, none] ?_
  have outer : ∀ (m1 : Nat) (r : Nat) (M1 : Mem), n < r + m1 → r ≤ n → c < r → (∀ q, q ≠ 60 → M1 q = M q) → (∀ a b, a < 8 → b < 8 → M1 60 (8 * a + b) = if a < r then cl (fun a b => M 60 (8 * a + b)) c n last a b else M 60 (8 * a + b)) → Em l yX6_clears cX6_clears 9 none 0 0 (fun r M' => r = none ∧ (∀ k, k ≠ 60 → M' k = M k) ∧ ∀ r k, r < 8 → k < 8 → M' 60 (8 * r + k) = cl (fun a b => M 60 (8 * a + b)) c n last r k) 5 [some (vR 53), some (vI (c : Int)), some (vI (n : Int)), some (vL last), none, some (vI (r : Int)), none, none, none] [] M1 := by
    intro m1
    induction m1 with
    | zero => intro r M1 h1 h2 hcr hk1 hm1; omega
    | succ m1 ihouter =>
      intro r M1 h1 h2 hcr hk1 hm1
      refine ev_iload dX6_clears_5 rfl ?_
      refine ev_iload_n dX6_clears_7 rfl ?_
      refine ev_icmp_ge 113 dX6_clears_8 (by omega) (by omega) (fun c1 => ?_) (fun c1 => ?_)
      · exact em_vret dX6_clears_113 ⟨rfl, hk1, fun a b ha hb => by rw [hm1 a b ha hb]; split; rfl; unfold cl; rw [if_neg (by omega)]⟩
      · have hrc : M1 60 (8 * r + c) = M 60 (8 * r + c) := by rw [hm1 r c (by omega) (by omega), if_neg (by omega)]
        refine ev_aload_n dX6_clears_11 rfl ?_
        refine em_getR fX6_29.g dX6_clears_12 lay_53 rfl ?_
        refine ev_bipush dX6_clears_15 (by decide) ?_
        refine ev_iload dX6_clears_17 rfl ?_
        refine ev_imul dX6_clears_19 ?_
        refine ev_iload_n dX6_clears_20 rfl ?_
        refine ev_iadd dX6_clears_21 ?_
        refine en_lald ((8 * r) + c) dX6_clears_22 lay_60 (by omega) (by omega) ?_
        rw [hrc]
        refine ev_lstore dX6_clears_23 (by decide) ?_
        refine ev_ls [some (vR _), some (vI _), some (vI _), some (vL _), none, some (vI _), some (vL _), none, none] rfl ?_
        refine ev_iconst dX6_clears_25 ?_
        refine ev_istore dX6_clears_26 (by decide) ?_
        refine ev_ls [some (vR _), some (vI _), some (vI _), some (vL _), none, some (vI _), some (vL _), none, some (vI _)] rfl ?_
        have inner : ∀ (m2 : Nat) (k : Nat) (M2 : Mem), n < k + m2 → k ≤ n → (∀ q, q ≠ 60 → M2 q = M q) → (∀ a b, a < 8 → b < 8 → M2 60 (8 * a + b) = if a < r ∨ (a = r ∧ b < k) then cl (fun a b => M 60 (8 * a + b)) c n last a b else M 60 (8 * a + b)) → Em l yX6_clears cX6_clears 9 none 0 0 (fun r M' => r = none ∧ (∀ k, k ≠ 60 → M' k = M k) ∧ ∀ r k, r < 8 → k < 8 → M' 60 (8 * r + k) = cl (fun a b => M 60 (8 * a + b)) c n last r k) 28 [some (vR 53), some (vI (c : Int)), some (vI (n : Int)), some (vL last), none, some (vI (r : Int)), some (vL (M 60 (8 * r + c))), none, some (vI (k : Int))] [] M2 := by
          intro m2
          induction m2 with
          | zero => intro k M2 h1 h2 hk2 hm2; omega
          | succ m2 ihinner =>
            intro k M2 h1 h2 hk2 hm2
            refine ev_iload dX6_clears_28 rfl ?_
            refine ev_iload_n dX6_clears_30 rfl ?_
            refine ev_icmp_ge 107 dX6_clears_31 (by omega) (by omega) (fun c2 => ?_) (fun c2 => ?_)
            · refine ev_iinc dX6_clears_107 rfl (by decide) ?_
              refine ev_ls [some (vR _), some (vI _), some (vI _), some (vL _), none, some (vI _), some (vL _), none, some (vI _)] rfl ?_
              refine ev_goto 5 dX6_clears_110 ?_
              refine ev_mask [true, true, true, true, true, true, false, false, false] ?_
              exact ihouter (r + 1) M2 (by omega) (by omega) (by omega) hk2 (fun a b ha hb => by rw [hm2 a b ha hb]; by_cases q : a < r + 1; (rw [if_pos q]; by_cases q2 : a < r ∨ (a = r ∧ b < k); (rw [if_pos q2]); (rw [if_neg q2]; unfold cl; rw [if_neg (by omega)])); (rw [if_neg (by omega), if_neg q]))
            · refine ev_iload dX6_clears_34 rfl ?_
              refine ev_if_eq 45 dX6_clears_36 (by omega) (fun c36 => ?_) (fun c36 => ?_)
              · have e1 : M2 60 (8 * r + k) = M 60 (8 * r + k) := by rw [hm2 r k (by omega) (by omega), if_neg (by omega)]
                have e2 : M2 60 (8 * c + c) = M 60 (8 * c + c) := by rw [hm2 c c (by omega) (by omega), if_pos (by omega)]; unfold cl; rw [if_neg (by omega)]
                have e3 : M2 60 (8 * c + k) = M 60 (8 * c + k) := by rw [hm2 c k (by omega) (by omega), if_pos (by omega)]; unfold cl; rw [if_neg (by omega)]
                have hrng := hR r k (by omega) (by omega) (by omega) (by omega)
                refine ev_aload_n dX6_clears_45 rfl ?_
                refine em_getR fX6_29.g dX6_clears_46 lay_53 rfl ?_
                refine ev_bipush dX6_clears_49 (by decide) ?_
                refine ev_iload dX6_clears_51 rfl ?_
                refine ev_imul dX6_clears_53 ?_
                refine ev_iload dX6_clears_54 rfl ?_
                refine ev_iadd dX6_clears_56 ?_
                refine ev_aload_n dX6_clears_57 rfl ?_
                refine em_getR fX6_29.g dX6_clears_58 lay_53 rfl ?_
                refine ev_bipush dX6_clears_61 (by decide) ?_
                refine ev_iload dX6_clears_63 rfl ?_
                refine ev_imul dX6_clears_65 ?_
                refine ev_iload dX6_clears_66 rfl ?_
                refine ev_iadd dX6_clears_68 ?_
                refine en_lald ((8 * r) + k) dX6_clears_69 lay_60 (by omega) (by omega) ?_
                refine ev_aload_n dX6_clears_70 rfl ?_
                refine em_getR fX6_29.g dX6_clears_71 lay_53 rfl ?_
                refine ev_bipush dX6_clears_74 (by decide) ?_
                refine ev_iload_n dX6_clears_76 rfl ?_
                refine ev_imul dX6_clears_77 ?_
                refine ev_iload_n dX6_clears_78 rfl ?_
                refine ev_iadd dX6_clears_79 ?_
                refine en_lald ((8 * c) + c) dX6_clears_80 lay_60 (by omega) (by omega) ?_
                refine ev_lmul dX6_clears_81 ?_
                refine ev_lload dX6_clears_82 rfl ?_
                refine ev_aload_n dX6_clears_84 rfl ?_
                refine em_getR fX6_29.g dX6_clears_85 lay_53 rfl ?_
                refine ev_bipush dX6_clears_88 (by decide) ?_
                refine ev_iload_n dX6_clears_90 rfl ?_
                refine ev_imul dX6_clears_91 ?_
                refine ev_iload dX6_clears_92 rfl ?_
                refine ev_iadd dX6_clears_94 ?_
                refine en_lald ((8 * c) + k) dX6_clears_95 lay_60 (by omega) (by omega) ?_
                refine ev_lmul dX6_clears_96 ?_
                refine ev_lsub dX6_clears_97 ?_
                rw [e1, e2, e3]
                refine ev_lload_n dX6_clears_98 rfl ?_
                refine ev_ldiv dX6_clears_99 (by omega) (by omega) (by omega) ?_
                refine en_last ((8 * r) + k) dX6_clears_100 lay_60 (by omega) (by omega) ?_
                refine ev_iinc dX6_clears_101 rfl (by decide) ?_
                refine ev_ls [some (vR _), some (vI _), some (vI _), some (vL _), none, some (vI _), some (vL _), none, some (vI _)] rfl ?_
                refine ev_goto 28 dX6_clears_104 ?_
                exact ihinner (k + 1) _ (by omega) (by omega) (fun q hq => by rw [up2_row _ _ _ _ hq, hk2 q hq]) (fun a b ha hb => by rw [up2_60 ha hb (by omega) (by omega), hm2 a b ha hb]; by_cases q : a = r ∧ b = k; (rw [if_pos q, if_pos (by omega), q.1, q.2]; unfold cl; rw [if_pos (by omega)]); (rw [if_neg q]; by_cases q2 : a < r ∨ (a = r ∧ b < k); (rw [if_pos q2, if_pos (by omega)]); (rw [if_neg q2, if_neg (by omega)])))
              · refine ev_iload dX6_clears_39 rfl ?_
                refine ev_iload_n dX6_clears_41 rfl ?_
                refine ev_icmp_lt 101 dX6_clears_42 (by omega) (by omega) (fun c42 => ?_) (fun c42 => ?_)
                · refine ev_iinc dX6_clears_101 rfl (by decide) ?_
                  refine ev_ls [some (vR _), some (vI _), some (vI _), some (vL _), none, some (vI _), some (vL _), none, some (vI _)] rfl ?_
                  refine ev_goto 28 dX6_clears_104 ?_
                  exact ihinner (k + 1) M2 (by omega) (by omega) hk2 (fun a b ha hb => by rw [hm2 a b ha hb]; by_cases q : a < r ∨ (a = r ∧ b < k); (rw [if_pos q, if_pos (by omega)]); (rw [if_neg q]; by_cases q2 : a = r ∧ b = k; (rw [if_pos (by omega), q2.1, q2.2]; unfold cl; rw [if_neg (by omega)]); (rw [if_neg (by omega)])))
                · have e1 : M2 60 (8 * r + k) = M 60 (8 * r + k) := by rw [hm2 r k (by omega) (by omega), if_neg (by omega)]
                  have e2 : M2 60 (8 * c + c) = M 60 (8 * c + c) := by rw [hm2 c c (by omega) (by omega), if_pos (by omega)]; unfold cl; rw [if_neg (by omega)]
                  have e3 : M2 60 (8 * c + k) = M 60 (8 * c + k) := by rw [hm2 c k (by omega) (by omega), if_pos (by omega)]; unfold cl; rw [if_neg (by omega)]
                  have hrng := hR r k (by omega) (by omega) (by omega) (by omega)
                  refine ev_aload_n dX6_clears_45 rfl ?_
                  refine em_getR fX6_29.g dX6_clears_46 lay_53 rfl ?_
                  refine ev_bipush dX6_clears_49 (by decide) ?_
                  refine ev_iload dX6_clears_51 rfl ?_
                  refine ev_imul dX6_clears_53 ?_
                  refine ev_iload dX6_clears_54 rfl ?_
                  refine ev_iadd dX6_clears_56 ?_
                  refine ev_aload_n dX6_clears_57 rfl ?_
                  refine em_getR fX6_29.g dX6_clears_58 lay_53 rfl ?_
                  refine ev_bipush dX6_clears_61 (by decide) ?_
                  refine ev_iload dX6_clears_63 rfl ?_
                  refine ev_imul dX6_clears_65 ?_
                  refine ev_iload dX6_clears_66 rfl ?_
                  refine ev_iadd dX6_clears_68 ?_
                  refine en_lald ((8 * r) + k) dX6_clears_69 lay_60 (by omega) (by omega) ?_
                  refine ev_aload_n dX6_clears_70 rfl ?_
                  refine em_getR fX6_29.g dX6_clears_71 lay_53 rfl ?_
                  refine ev_bipush dX6_clears_74 (by decide) ?_
                  refine ev_iload_n dX6_clears_76 rfl ?_
                  refine ev_imul dX6_clears_77 ?_
                  refine ev_iload_n dX6_clears_78 rfl ?_
                  refine ev_iadd dX6_clears_79 ?_
                  refine en_lald ((8 * c) + c) dX6_clears_80 lay_60 (by omega) (by omega) ?_
                  refine ev_lmul dX6_clears_81 ?_
                  refine ev_lload dX6_clears_82 rfl ?_
                  refine ev_aload_n dX6_clears_84 rfl ?_
                  refine em_getR fX6_29.g dX6_clears_85 lay_53 rfl ?_
                  refine ev_bipush dX6_clears_88 (by decide) ?_
                  refine ev_iload_n dX6_clears_90 rfl ?_
                  refine ev_imul dX6_clears_91 ?_
                  refine ev_iload dX6_clears_92 rfl ?_
                  refine ev_iadd dX6_clears_94 ?_
                  refine en_lald ((8 * c) + k) dX6_clears_95 lay_60 (by omega) (by omega) ?_
                  refine ev_lmul dX6_clears_96 ?_
                  refine ev_lsub dX6_clears_97 ?_
                  rw [e1, e2, e3]
                  refine ev_lload_n dX6_clears_98 rfl ?_
                  refine ev_ldiv dX6_clears_99 (by omega) (by omega) (by omega) ?_
                  refine en_last ((8 * r) + k) dX6_clears_100 lay_60 (by omega) (by omega) ?_
                  refine ev_iinc dX6_clears_101 rfl (by decide) ?_
                  refine ev_ls [some (vR _), some (vI _), some (vI _), some (vL _), none, some (vI _), some (vL _), none, some (vI _)] rfl ?_
                  refine ev_goto 28 dX6_clears_104 ?_
                  exact ihinner (k + 1) _ (by omega) (by omega) (fun q hq => by rw [up2_row _ _ _ _ hq, hk2 q hq]) (fun a b ha hb => by rw [up2_60 ha hb (by omega) (by omega), hm2 a b ha hb]; by_cases q : a = r ∧ b = k; (rw [if_pos q, if_pos (by omega), q.1, q.2]; unfold cl; rw [if_pos (by omega)]); (rw [if_neg q]; by_cases q2 : a < r ∨ (a = r ∧ b < k); (rw [if_pos q2, if_pos (by omega)]); (rw [if_neg q2, if_neg (by omega)])))
        exact inner (n + 1) 0 M1 (by omega) (by omega) hk1 (fun a b ha hb => by rw [hm1 a b ha hb]; by_cases q : a < r; (rw [if_pos q, if_pos (by omega)]); (rw [if_neg q, if_neg (by omega)]))
  refine ev_iload_n dX6_clears_0 rfl ?_
  refine ev_iconst dX6_clears_1 ?_
  refine ev_iadd dX6_clears_2 ?_
  refine ev_istore dX6_clears_3 (by decide) ?_
  refine ev_ls [some (vR _), some (vI _), some (vI _), some (vL _), none, some (vI _), none, none, none] rfl ?_
  exact outer (n + 1) (c + 1) M (by omega) (by omega) (by omega) (fun _ _ => rfl) (fun a b ha hb => by by_cases q : a < c + 1; (rw [if_pos q]; unfold cl; rw [if_neg (by omega)]); (rw [if_neg q]))
set_option maxRecDepth 100000 in
set_option maxHeartbeats 4000000 in
theorem d_backs (l : Launch) {M : Mem} {n : Nat} {last : Int} {mem : Nat → Nat} {X : Nat → Int} (hn1 : 1 ≤ n) (hn : n ≤ 8) (hmem : ∀ i, i < n → M 59 i = (mem i : Int) ∧ mem i < 8) (hinj : ∀ i j, i < n → j < n → mem i = mem j → i = j) (hX0 : X 0 = 0) (hsys : ∀ r, 1 ≤ r → r < n → M 60 (8 * r) * last - sm n (fun k => if r < k then M 60 (8 * r + k) * X k else 0) = M 60 (8 * r + r) * X r ∧ i64 (M 60 (8 * r + r) * X r) ∧ i64 (M 60 (8 * r + r)) ∧ M 60 (8 * r + r) ≠ 0) : Cm l yX6_backs cX6_backs 8 none 0 0 [vR 53, vI (n : Int), vL last] M (fun r M' => r = none ∧ (∀ k, k ≠ 61 → k ≠ 62 → M' k = M k) ∧ (∀ i, i < n → M' 61 (mem i) = X i ∧ M' 62 (mem i) = last) ∧ ∀ t, (∀ i, i < n → mem i ≠ t) → M' 61 t = M 61 t ∧ M' 62 t = M 62 t) := by
  refine cmo [some (vR 53), some (vI (n : Int)), some (vL last), none, none, none, none, none] ?_
  have fst : ∀ (m1 : Nat) (i : Nat) (M1 : Mem), n < i + m1 → i ≤ n → (∀ k, k ≠ 61 → k ≠ 62 → M1 k = M k) → (∀ q, q < i → M1 61 (mem q) = 0 ∧ M1 62 (mem q) = last) → (∀ t, (∀ i, i < n → mem i ≠ t) → M1 61 t = M 61 t ∧ M1 62 t = M 62 t) → Em l yX6_backs cX6_backs 8 none 0 0 (fun r M' => r = none ∧ (∀ k, k ≠ 61 → k ≠ 62 → M' k = M k) ∧ (∀ i, i < n → M' 61 (mem i) = X i ∧ M' 62 (mem i) = last) ∧ ∀ t, (∀ i, i < n → mem i ≠ t) → M' 61 t = M 61 t ∧ M' 62 t = M 62 t) 3 [some (vR 53), some (vI (n : Int)), some (vL last), none, some (vI (i : Int)), none, none, none] [] M1 := by
    intro m1
    induction m1 with
    | zero => intro i M1 h1 h2 hk1 hm1 ho1; omega
    | succ m1 ihfst =>
      intro i M1 h1 h2 hk1 hm1 ho1
      refine ev_iload dX6_backs_3 rfl ?_
      refine ev_iload_n dX6_backs_5 rfl ?_
      refine ev_icmp_ge 41 dX6_backs_6 (by omega) (by omega) (fun c1 => ?_) (fun c1 => ?_)
      · have ei : n = i := by omega
        subst ei
        have down : ∀ (m2 : Nat) (r : Nat) (M2 : Mem), r < m2 → r < n → (∀ k, k ≠ 61 → k ≠ 62 → M2 k = M k) → (∀ i, i < n → M2 62 (mem i) = last) → (∀ i, r < i → i < n → M2 61 (mem i) = X i) → (∀ i, i < n → i ≤ r → M2 61 (mem i) = 0) → (∀ t, (∀ i, i < n → mem i ≠ t) → M2 61 t = M 61 t ∧ M2 62 t = M 62 t) → Em l yX6_backs cX6_backs 8 none 0 0 (fun r M' => r = none ∧ (∀ k, k ≠ 61 → k ≠ 62 → M' k = M k) ∧ (∀ i, i < n → M' 61 (mem i) = X i ∧ M' 62 (mem i) = last) ∧ ∀ t, (∀ i, i < n → mem i ≠ t) → M' 61 t = M 61 t ∧ M' 62 t = M 62 t) 46 [some (vR 53), some (vI (n : Int)), some (vL last), none, some (vI (r : Int)), none, none, none] [] M2 := by
          intro m2
          induction m2 with
          | zero => intro r M2 h3 h4 hk2 hu2 hx2 hz2 ho2; omega
          | succ m2 ihdown =>
            intro r M2 h3 h4 hk2 hu2 hx2 hz2 ho2
            refine ev_iload dX6_backs_46 rfl ?_
            refine ev_if_le 148 dX6_backs_48 (by omega) (fun c2 => ?_) (fun c2 => ?_)
            · have er : r = 0 := by omega
              subst er
              exact em_vret dX6_backs_148 ⟨rfl, hk2, fun q hq => ⟨by by_cases e : q = 0; (subst e; rw [hz2 0 hq (by omega)]; exact hX0.symm); (exact hx2 q (by omega) hq), hu2 q hq⟩, ho2⟩
            · have hr60 : ∀ j, M2 60 j = M 60 j := fun j => by rw [hk2 60 (by omega) (by omega)]
              have hr59 : ∀ j, M2 59 j = M 59 j := fun j => by rw [hk2 59 (by omega) (by omega)]
              obtain ⟨hs, hi1, hi2, hne⟩ := hsys r (by omega) (by omega)
              refine ev_aload_n dX6_backs_51 rfl ?_
              refine em_getR fX6_29.g dX6_backs_52 lay_53 rfl ?_
              refine ev_bipush dX6_backs_55 (by decide) ?_
              refine ev_iload dX6_backs_57 rfl ?_
              refine ev_imul dX6_backs_59 ?_
              refine en_lald (8 * r) dX6_backs_60 lay_60 (by omega) (by omega) ?_
              rw [hr60]
              refine ev_lload_n dX6_backs_61 rfl ?_
              refine ev_lmul dX6_backs_62 ?_
              refine ev_lstore dX6_backs_63 (by decide) ?_
              refine ev_ls [some (vR _), some (vI _), some (vL _), none, some (vI _), some (vL _), none, none] rfl ?_
              refine ev_iload dX6_backs_65 rfl ?_
              refine ev_iconst dX6_backs_67 ?_
              refine ev_iadd dX6_backs_68 ?_
              refine ev_istore dX6_backs_69 (by decide) ?_
              refine ev_ls [some (vR _), some (vI _), some (vL _), none, some (vI _), some (vL _), none, some (vI _)] rfl ?_
              have inn : ∀ (m3 : Nat) (k : Nat), n < k + m3 → k ≤ n → r < k → Em l yX6_backs cX6_backs 8 none 0 0 (fun r M' => r = none ∧ (∀ k, k ≠ 61 → k ≠ 62 → M' k = M k) ∧ (∀ i, i < n → M' 61 (mem i) = X i ∧ M' 62 (mem i) = last) ∧ ∀ t, (∀ i, i < n → mem i ≠ t) → M' 61 t = M 61 t ∧ M' 62 t = M 62 t) 71 [some (vR 53), some (vI (n : Int)), some (vL last), none, some (vI (r : Int)), some (vL (M 60 (8 * r) * last - sm k (fun k => if r < k then M 60 (8 * r + k) * X k else 0))), none, some (vI (k : Int))] [] M2 := by
                intro m3
                induction m3 with
                | zero => intro k h5 h6 h7; omega
                | succ m3 ihinn =>
                  intro k h5 h6 h7
                  refine ev_iload dX6_backs_71 rfl ?_
                  refine ev_iload_n dX6_backs_73 rfl ?_
                  refine ev_icmp_ge 114 dX6_backs_74 (by omega) (by omega) (fun c3 => ?_) (fun c3 => ?_)
                  · have ek : n = k := by omega
                    subst ek
                    have hmr := hmem r (by omega)
                    refine ev_aload_n dX6_backs_114 rfl ?_
                    refine em_getR fX6_33.g dX6_backs_115 lay_53 rfl ?_
                    refine ev_aload_n dX6_backs_118 rfl ?_
                    refine em_getR fX6_26.g dX6_backs_119 lay_53 rfl ?_
                    refine ev_iload dX6_backs_122 rfl ?_
                    refine en_iald r dX6_backs_124 lay_59 (by omega) (by omega) ?_
                    refine ev_lload dX6_backs_125 rfl ?_
                    refine ev_aload_n dX6_backs_127 rfl ?_
                    refine em_getR fX6_29.g dX6_backs_128 lay_53 rfl ?_
                    refine ev_bipush dX6_backs_131 (by decide) ?_
                    refine ev_iload dX6_backs_133 rfl ?_
                    refine ev_imul dX6_backs_135 ?_
                    refine ev_iload dX6_backs_136 rfl ?_
                    refine ev_iadd dX6_backs_138 ?_
                    refine en_lald ((8 * r) + r) dX6_backs_139 lay_60 (by omega) (by omega) ?_
                    rw [hr60, hs]
                    refine ev_ldiv dX6_backs_140 hi1 hi2 hne ?_
                    rw [Int.mul_tdiv_cancel_left _ hne]
                    refine en_last (mem r) dX6_backs_141 lay_61 (by rw [hr59]; exact hmr.1) (by omega) ?_
                    refine ev_iinc dX6_backs_142 rfl (by decide) ?_
                    refine ev_ls [some (vR _), some (vI _), some (vL _), none, some (vI _), some (vL _), none, some (vI _)] rfl ?_
                    refine ev_goto 46 dX6_backs_145 ?_
                    refine ev_mask [true, true, true, true, true, false, false, false] ?_
                    have hg := ihdown (r - 1) (up2 M2 61 (mem r) (X r)) (by omega) (by omega) (fun q h1 h2 => by rw [up2_row _ _ _ _ h1, hk2 q h1 h2]) (fun q hq => by rw [up2_row _ _ _ _ (by omega)]; exact hu2 q hq) (fun q h1 h2 => by by_cases e : q = r; (rw [e, up2_same]); (rw [up2_ne _ _ _ _ (Or.inr (fun z => e (hinj q r h2 (by omega) z)))]; exact hx2 q (by omega) h2)) (fun q h1 h2 => by rw [up2_ne _ _ _ _ (Or.inr (fun z => by have := hinj q r h1 (by omega) z; omega))]; exact hz2 q h1 (by omega)) (fun t ht => ⟨by rw [up2_ne _ _ _ _ (Or.inr (fun z => ht r (by omega) z.symm))]; exact (ho2 t ht).1, by rw [up2_row _ _ _ _ (by omega)]; exact (ho2 t ht).2⟩)
                    rw [show ((r - 1 : Nat) : Int) = (r : Int) + -1 by omega] at hg
                    exact hg
                  · have hmk := hmem k (by omega)
                    refine ev_lload dX6_backs_77 rfl ?_
                    refine ev_aload_n dX6_backs_79 rfl ?_
                    refine em_getR fX6_29.g dX6_backs_80 lay_53 rfl ?_
                    refine ev_bipush dX6_backs_83 (by decide) ?_
                    refine ev_iload dX6_backs_85 rfl ?_
                    refine ev_imul dX6_backs_87 ?_
                    refine ev_iload dX6_backs_88 rfl ?_
                    refine ev_iadd dX6_backs_90 ?_
                    refine en_lald ((8 * r) + k) dX6_backs_91 lay_60 (by omega) (by omega) ?_
                    refine ev_aload_n dX6_backs_92 rfl ?_
                    refine em_getR fX6_33.g dX6_backs_93 lay_53 rfl ?_
                    refine ev_aload_n dX6_backs_96 rfl ?_
                    refine em_getR fX6_26.g dX6_backs_97 lay_53 rfl ?_
                    refine ev_iload dX6_backs_100 rfl ?_
                    refine en_iald k dX6_backs_102 lay_59 (by omega) (by omega) ?_
                    refine en_lald (mem k) dX6_backs_103 lay_61 (by rw [hr59]; exact hmk.1) (by omega) ?_
                    refine ev_lmul dX6_backs_104 ?_
                    refine ev_lsub dX6_backs_105 ?_
                    rw [hr60, hx2 k (by omega) (by omega)]
                    rw [show M 60 (8 * r) * last - sm k (fun k => if r < k then M 60 (8 * r + k) * X k else 0) - M 60 (8 * r + k) * X k = M 60 (8 * r) * last - sm (k + 1) (fun k => if r < k then M 60 (8 * r + k) * X k else 0) by show _ = _ - (sm k _ + (if r < k then M 60 (8 * r + k) * X k else 0)); rw [if_pos (by omega)]; omega]
                    refine ev_lstore dX6_backs_106 (by decide) ?_
                    refine ev_ls [some (vR _), some (vI _), some (vL _), none, some (vI _), some (vL _), none, some (vI _)] rfl ?_
                    refine ev_iinc dX6_backs_108 rfl (by decide) ?_
                    refine ev_ls [some (vR _), some (vI _), some (vL _), none, some (vI _), some (vL _), none, some (vI _)] rfl ?_
                    refine ev_goto 71 dX6_backs_111 ?_
                    exact ihinn (k + 1) (by omega) (by omega) (by omega)
              have hg := inn (n + 1) (r + 1) (by omega) (by omega) (by omega)
              rw [show sm (r + 1) (fun k => if r < k then M 60 (8 * r + k) * X k else 0) = 0 from sm_zero (fun i hi => if_neg (by omega)), Int.sub_zero] at hg
              exact hg
        refine ev_iload_n dX6_backs_41 rfl ?_
        refine ev_iconst dX6_backs_42 ?_
        refine ev_isub dX6_backs_43 ?_
        rw [show (n : Int) - 1 = ((n - 1 : Nat) : Int) by omega]
        refine ev_istore dX6_backs_44 (by decide) ?_
        refine ev_ls [some (vR _), some (vI _), some (vL _), none, some (vI _), none, none, none] rfl ?_
        exact down n (n - 1) M1 (by omega) (by omega) hk1 (fun i hi => (hm1 i hi).2) (fun i h1 h2 => by omega) (fun i h1 h2 => (hm1 i h1).1) ho1
      · have hmi := hmem i (by omega)
        have hr59 : ∀ j, M1 59 j = M 59 j := fun j => by rw [hk1 59 (by omega) (by omega)]
        refine ev_aload_n dX6_backs_9 rfl ?_
        refine em_getR fX6_36.g dX6_backs_10 lay_53 rfl ?_
        refine ev_aload_n dX6_backs_13 rfl ?_
        refine em_getR fX6_26.g dX6_backs_14 lay_53 rfl ?_
        refine ev_iload dX6_backs_17 rfl ?_
        refine en_iald i dX6_backs_19 lay_59 (by omega) (by omega) ?_
        refine ev_lload_n dX6_backs_20 rfl ?_
        refine en_last (mem i) dX6_backs_21 lay_62 (by rw [hr59]; exact hmi.1) (by omega) ?_
        refine ev_aload_n dX6_backs_22 rfl ?_
        refine em_getR fX6_33.g dX6_backs_23 lay_53 rfl ?_
        refine ev_aload_n dX6_backs_26 rfl ?_
        refine em_getR fX6_26.g dX6_backs_27 lay_53 rfl ?_
        refine ev_iload dX6_backs_30 rfl ?_
        refine en_iald i dX6_backs_32 lay_59 (by omega) (by omega) ?_
        refine ev_lconst0 dX6_backs_33 ?_
        refine en_last (mem i) dX6_backs_34 lay_61 (by rw [up2_row _ _ _ _ (by omega), hr59]; exact hmi.1) (by omega) ?_
        refine ev_iinc dX6_backs_35 rfl (by decide) ?_
        refine ev_ls [some (vR _), some (vI _), some (vL _), none, some (vI _), none, none, none] rfl ?_
        refine ev_goto 3 dX6_backs_38 ?_
        exact ihfst (i + 1) _ (by omega) (by omega) (fun q h1 h2 => by rw [up2_row _ _ _ _ h1, up2_row _ _ _ _ h2, hk1 q h1 h2]) (fun q hq => ⟨by by_cases e : q = i; (rw [e, up2_same]); (rw [up2_ne _ _ _ _ (Or.inr (fun z => e (hinj q i (by omega) (by omega) z))), up2_row _ _ _ _ (by omega)]; exact (hm1 q (by omega)).1), by rw [up2_row _ _ _ _ (by omega)]; by_cases e : q = i; (rw [e, up2_same]); (rw [up2_ne _ _ _ _ (Or.inr (fun z => e (hinj q i (by omega) (by omega) z)))]; exact (hm1 q (by omega)).2)⟩) (fun t ht => ⟨by rw [up2_ne _ _ _ _ (Or.inr (fun z => ht i (by omega) z.symm)), up2_row _ _ _ _ (by omega)]; exact (ho1 t ht).1, by rw [up2_row _ _ _ _ (by omega), up2_ne _ _ _ _ (Or.inr (fun z => ht i (by omega) z.symm))]; exact (ho1 t ht).2⟩)
  refine ev_iconst dX6_backs_0 ?_
  refine ev_istore dX6_backs_1 (by decide) ?_
  refine ev_ls [some (vR _), some (vI _), some (vL _), none, some (vI _), none, none, none] rfl ?_
  exact fst (n + 1) 0 M (by omega) (by omega) (fun _ _ _ => rfl) (fun q hq => by omega) (fun t ht => ⟨rfl, rfl⟩)
end
section
/-! nets: the labelling of tracks by the least of those joined with them -/
def EInv (e : Nat → Nat → Prop) (T : Nat) (f : Nat → Nat) : Prop := ∀ a b, a < b → b < T → e a b → f a = f b
def Lab (e : Nat → Nat → Prop) (T : Nat) (c : Nat → Nat) : Prop := EInv e T c ∧ (∀ t, t < T → c t ≤ t) ∧ ∀ f, EInv e T f → ∀ t, t < T → f t = f (c t)
theorem lab_idem {e : Nat → Nat → Prop} {T : Nat} {c : Nat → Nat} (h : Lab e T c) {t : Nat} (ht : t < T) : c (c t) = c t := (h.2.2 c h.1 t ht).symm
theorem lab_unique {e : Nat → Nat → Prop} {T : Nat} {c c' : Nat → Nat} (h : Lab e T c) (h' : Lab e T c') {t : Nat} (ht : t < T) : c t = c' t := by
  have h1 := h.2.2 c' h'.1 t ht
  have h2 := h'.2.2 c h.1 t ht
  have h3 := h'.2.1 (c t) (Nat.lt_of_le_of_lt (h.2.1 t ht) ht)
  have h4 := h.2.1 (c' t) (Nat.lt_of_le_of_lt (h'.2.1 t ht) ht)
  omega
/-- two labels made one -/
def rel (f : Nat → Nat) (x z : Nat) : Nat → Nat := fun t => if f t = max x z then min x z else f t
/-- a labelling of the pairs that q says -/
def LabQ (e : Nat → Nat → Prop) (T : Nat) (q : Nat → Nat → Prop) (c : Nat → Nat) : Prop := Lab (fun a b => e a b ∧ q a b) T c
theorem lab_rel {e : Nat → Nat → Prop} {T : Nat} {q : Nat → Nat → Prop} {c : Nat → Nat} {a b : Nat} (h : LabQ e T q c) (hab : a < b) (hb : b < T) (he : e a b) : LabQ e T (fun x z => q x z ∨ (x = a ∧ z = b)) (rel c (c a) (c b)) := by
  refine ⟨?_, ?_, ?_⟩
  · intro x z hxz hz ⟨h1, h2⟩
    rcases h2 with h2 | ⟨rfl, rfl⟩
    · have := h.1 x z hxz hz ⟨h1, h2⟩
      unfold rel
      rw [this]
    · unfold rel
      rcases Nat.le_total (c x) (c z) with q1 | q1
      · rw [Nat.max_eq_right q1, Nat.min_eq_left q1, if_pos rfl]
        split
        · rfl
        · rfl
      · rw [Nat.max_eq_left q1, Nat.min_eq_right q1, if_pos rfl]
        split
        · rfl
        · rfl
  · intro t ht
    have := h.2.1 t ht
    unfold rel
    split <;> omega
  · intro f hf t ht
    have hf1 : EInv (fun a b => e a b ∧ q a b) T f := fun x z h1 h2 h3 => hf x z h1 h2 ⟨h3.1, Or.inl h3.2⟩
    have e1 := h.2.2 f hf1 t ht
    have e2 := h.2.2 f hf1 a (by omega)
    have e3 := h.2.2 f hf1 b hb
    have e4 := hf a b hab hb ⟨he, Or.inr ⟨rfl, rfl⟩⟩
    unfold rel
    split
    · rename_i q1
      rw [q1] at e1
      rcases Nat.le_total (c a) (c b) with q2 | q2
      · rw [Nat.max_eq_right q2] at e1; rw [Nat.min_eq_left q2]; omega
      · rw [Nat.max_eq_left q2] at e1; rw [Nat.min_eq_right q2]; omega
    · exact e1
theorem lab_congr {e : Nat → Nat → Prop} {T : Nat} {q q' : Nat → Nat → Prop} {c : Nat → Nat} (h : LabQ e T q c) (hq : ∀ x z, x < z → z < T → e x z → (q x z ↔ q' x z)) : LabQ e T q' c :=
  ⟨fun x z h1 h2 h3 => h.1 x z h1 h2 ⟨h3.1, (hq x z h1 h2 h3.1).mpr h3.2⟩, h.2.1, fun f hf => h.2.2 f (fun x z h1 h2 h3 => hf x z h1 h2 ⟨h3.1, (hq x z h1 h2 h3.1).mp h3.2⟩)⟩
theorem lab_id (e : Nat → Nat → Prop) (T : Nat) : LabQ e T (fun _ _ => False) (fun t => t) := ⟨fun x z h1 h2 h3 => h3.2.elim, fun t _ => Nat.le_refl t, fun f _ t _ => rfl⟩
theorem lab_done {e : Nat → Nat → Prop} {T : Nat} {q : Nat → Nat → Prop} {c : Nat → Nat} (h : LabQ e T q c) (hq : ∀ x z, x < z → z < T → q x z) : Lab e T c :=
  ⟨fun x z h1 h2 h3 => h.1 x z h1 h2 ⟨h3, hq x z h1 h2⟩, h.2.1, fun f hf => h.2.2 f (fun x z h1 h2 h3 => hf x z h1 h2 h3.1)⟩
theorem lab_exists (e : Nat → Nat → Prop) (T : Nat) : ∃ c, Lab e T c := by
  have key : ∀ b, b ≤ T → ∃ c, LabQ e T (fun x z => z < b) c := by
    intro b
    induction b with
    | zero => exact fun _ => ⟨_, lab_congr (lab_id e T) (fun x z _ _ _ => ⟨fun h => h.elim, fun h => by omega⟩)⟩
    | succ b ih =>
      intro hb
      have inner : ∀ a, a ≤ b → ∃ c, LabQ e T (fun x z => z < b ∨ (z = b ∧ x < a)) c := by
        intro a
        induction a with
        | zero =>
          intro _
          obtain ⟨c, hc⟩ := ih (by omega)
          exact ⟨c, lab_congr hc (fun x z _ _ _ => ⟨fun h => Or.inl h, fun h => by omega⟩)⟩
        | succ a ih2 =>
          intro ha
          obtain ⟨c, hc⟩ := ih2 (by omega)
          by_cases he : e a b
          · exact ⟨_, lab_congr (lab_rel hc (show a < b by omega) (by omega) he) (fun x z _ _ _ => ⟨fun h => by omega, fun h => by omega⟩)⟩
          · refine ⟨c, lab_congr hc (fun x z h1 h2 h3 => ⟨fun h => by omega, fun h => ?_⟩)⟩
            rcases h with h | ⟨h4, h5⟩
            · exact Or.inl h
            · by_cases q : x = a
              · subst q; subst h4; exact absurd h3 he
              · exact Or.inr ⟨h4, by omega⟩
      obtain ⟨c, hc⟩ := inner b (Nat.le_refl b)
      exact ⟨c, lab_congr hc (fun x z h1 _ _ => ⟨fun h => by omega, fun h => by omega⟩)⟩
  obtain ⟨c, hc⟩ := key T (Nat.le_refl T)
  exact ⟨c, lab_done hc (fun x z _ h => h)⟩
/-! the model's rounds -/
def gd (f c : Nat → Nat) : Nat → Nat
  | 0 => 0
  | n + 1 => gd f c n + (if f n = c n then 1 else 0)
theorem gd_le (f c : Nat → Nat) : ∀ n, gd f c n ≤ n
  | 0 => Nat.le_refl 0
  | n + 1 => by
    have := gd_le f c n
    show gd f c n + _ ≤ n + 1
    split <;> omega
theorem gd_mono {f g c : Nat → Nat} : ∀ {n : Nat}, (∀ t, t < n → f t = c t → g t = c t) → gd f c n ≤ gd g c n
  | 0, _ => Nat.le_refl 0
  | n + 1, h => by
    have h1 := gd_mono (n := n) (fun t ht => h t (by omega))
    have h2 := h n (by omega)
    show gd f c n + _ ≤ gd g c n + _
    by_cases q : f n = c n
    · rw [if_pos q, if_pos (h2 q)]; omega
    · rw [if_neg q]; split <;> omega
theorem gd_lt {f g c : Nat → Nat} {k : Nat} : ∀ {n : Nat}, (∀ t, t < n → f t = c t → g t = c t) → k < n → f k ≠ c k → g k = c k → gd f c n < gd g c n
  | 0, _, h, _, _ => by omega
  | n + 1, h, hk, h1, h2 => by
    show gd f c n + _ < gd g c n + _
    by_cases q : k = n
    · subst q
      have := gd_mono (f := f) (g := g) (c := c) (n := k) (fun t ht => h t (by omega))
      rw [if_neg h1, if_pos h2]; omega
    · have := gd_lt (n := n) (fun t ht => h t (by omega)) (by omega) h1 h2
      have h3 := h n (by omega)
      by_cases q : f n = c n
      · rw [if_pos q, if_pos (h3 q)]; omega
      · rw [if_neg q]; split <;> omega
theorem gd_all {f c : Nat → Nat} : ∀ {n : Nat}, gd f c n = n → ∀ t, t < n → f t = c t
  | 0, _, t, ht => by omega
  | n + 1, h, t, ht => by
    have h1 := gd_le f c n
    have h2 : gd f c n + (if f n = c n then 1 else 0) = n + 1 := h
    by_cases q : f n = c n
    · rw [if_pos q] at h2
      by_cases e : t = n
      · subst e; exact q
      · exact gd_all (n := n) (by omega) t (by omega)
    · rw [if_neg q] at h2; omega
/-- what holds of the model's labels all the way: they stay in the net, and at or below the start -/
def Lin (e : Nat → Nat → Prop) (T : Nat) (f : Nat → Nat) : Prop := (∀ t, t < T → f t ≤ t) ∧ ∀ g, EInv e T g → ∀ t, t < T → g t = g (f t)
theorem lin_ge {e : Nat → Nat → Prop} {T : Nat} {c f : Nat → Nat} (hc : Lab e T c) (h : Lin e T f) {t : Nat} (ht : t < T) : c t ≤ f t := by
  rw [h.2 c hc.1 t ht]
  exact hc.2.1 _ (Nat.lt_of_le_of_lt (h.1 t ht) ht)
theorem lin_upd {e : Nat → Nat → Prop} {T : Nat} {f : Nat → Nat} {a b : Nat} (h : Lin e T f) (hab : a < b) (hb : b < T) (he : e a b) : Lin e T (va_up (va_up f a (min (f a) (f b))) b (min (f a) (f b))) := by
  have ha1 := h.1 a (by omega)
  have hb1 := h.1 b hb
  refine ⟨fun t ht => ?_, fun g hg t ht => ?_⟩
  · by_cases q : t = b
    · subst q; rw [va_up_self]; omega
    · rw [va_up_ne _ _ q]
      by_cases q2 : t = a
      · subst q2; rw [va_up_self]; omega
      · rw [va_up_ne _ _ q2]; exact h.1 t ht
  · have e1 := h.2 g hg a (by omega)
    have e2 := h.2 g hg b hb
    have e3 := hg a b hab hb he
    have e4 : g (min (f a) (f b)) = g a := by
      rcases Nat.le_total (f a) (f b) with q | q
      · rw [Nat.min_eq_left q]; exact e1.symm
      · rw [Nat.min_eq_right q]; omega
    by_cases q : t = b
    · subst q; rw [va_up_self]; omega
    · rw [va_up_ne _ _ q]
      by_cases q2 : t = a
      · subst q2; rw [va_up_self]; omega
      · rw [va_up_ne _ _ q2]; exact h.2 g hg t ht
theorem lin_round {e : Nat → Nat → Prop} {T : Nat} {c f g : Nat → Nat} (hc : Lab e T c) (hf : Lin e T f) (hg : Lin e T g) (hle : ∀ t, t < T → g t ≤ f t) (hr : ∀ a b, a < b → b < T → e a b → g a ≤ f b ∧ g b ≤ f a) (hn : gd f c T < T) : gd f c T < gd g c T := by
  have hmono : ∀ t, t < T → f t = c t → g t = c t := fun t ht q => by
    have h1 := lin_ge hc hg ht
    have h2 := hle t ht
    omega
  by_cases hs : ∃ k, k < T ∧ f k ≠ c k ∧ g k = c k
  · obtain ⟨k, h1, h2, h3⟩ := hs
    exact gd_lt hmono h1 h2 h3
  · exfalso
    have hsame : ∀ t, t < T → g t = c t → f t = c t := fun t ht q => by
      by_cases q2 : f t = c t
      · exact q2
      · exact absurd ⟨t, ht, q2, q⟩ hs
    have hinv : EInv e T (fun t => if f t = c t then 1 else 0) := by
      intro a b hab hb he
      have e1 := hc.1 a b hab hb he
      have e2 := hr a b hab hb he
      have ga := lin_ge hc hg (t := a) (by omega)
      have gb := lin_ge hc hg (t := b) hb
      show (if f a = c a then 1 else 0) = (if f b = c b then 1 else 0)
      by_cases q : f a = c a
      · rw [if_pos q, if_pos (hsame b hb (by omega))]
      · rw [if_neg q]
        by_cases q2 : f b = c b
        · exact absurd (hsame a (by omega) (by omega)) q
        · rw [if_neg q2]
    have hall : ∀ t, t < T → f t = c t := by
      intro t ht
      have h1 := hc.2.2 _ hinv t ht
      have hct : c t < T := Nat.lt_of_le_of_lt (hc.2.1 t ht) ht
      have h2 := hf.1 (c t) hct
      have h3 := lin_ge hc hf hct
      rw [lab_idem hc ht] at h3
      have h4 : f (c t) = c (c t) := by rw [lab_idem hc ht]; omega
      have h5 : (if f t = c t then 1 else 0) = (if f (c t) = c (c t) then 1 else 0) := h1
      rw [if_pos h4] at h5
      by_cases q : f t = c t
      · exact q
      · rw [if_neg q] at h5; omega
    have key : ∀ n, n ≤ T → gd f c n = n := by
      intro n
      induction n with
      | zero => exact fun _ => rfl
      | succ n ih =>
        intro hn
        show gd f c n + _ = n + 1
        rw [ih (by omega), if_pos (hall n (by omega))]
    have := key T (Nat.le_refl T)
    omega
end
section
/-- what nets leaves as it was -/
def FN (M M' : Mem) : Prop := (∀ k, k ≠ 53 → k ≠ 58 → M' k = M k) ∧ (∀ f, f ≠ 6 → f ≠ 7 → f ≠ 8 → f ≠ 9 → f ≠ 10 → M' 53 f = M 53 f)
theorem FN.rf (M : Mem) : FN M M := ⟨fun _ _ _ => rfl, fun _ _ _ _ _ _ => rfl⟩
theorem FN.fr {M M' M'' : Mem} (h : FN M M') (h' : FR M' M'') : FN M M'' := ⟨fun k h1 h2 => (h'.1 k h1).trans (h.1 k h1 h2), fun f a b c d e => (h'.2 f a b c d e).trans (h.2 f a b c d e)⟩
theorem FN.up {M M' : Mem} (h : FN M M') (k : Nat) (x : Int) : FN M (up2 M' 58 k x) := ⟨fun q h1 h2 => by rw [up2_row _ _ _ _ h2, h.1 q h1 h2], fun f a b c d e => by rw [up2_row _ _ _ _ (by omega)]; exact h.2 f a b c d e⟩
theorem FN.en {M0 M M' : Mem} (h : FN M M') (hE : EN M0 M) : EN M0 M' := hE.of (fun k hk => h.1 k (by omega) (by omega))
theorem FN.n {M M' : Mem} (h : FN M M') : M' 53 0 = M 53 0 := h.2 0 (by omega) (by omega) (by omega) (by omega) (by omega)
theorem gd_id {c : Nat → Nat} {T : Nat} (hT : 1 ≤ T) (h0 : c 0 ≤ 0) : 1 ≤ gd (fun t => t) c T := by
  have := gd_lt (f := fun t => c t + 1) (g := fun t => t) (c := c) (k := 0) (n := T) (fun t _ q => by have q1 : c t + 1 = c t := q; omega) (by omega) (by show c 0 + 1 ≠ c 0; omega) (by show 0 = c 0; omega)
  omega
theorem lin_id (e : Nat → Nat → Prop) (T : Nat) : Lin e T (fun t => t) := ⟨fun t _ => Nat.le_refl t, fun g _ t _ => rfl⟩
set_option maxRecDepth 100000 in
set_option maxHeartbeats 4000000 in
theorem d_nets (l : Launch) {M0 M : Mem} {T : Nat} {c : Nat → Nat} (hE : EN M0 M) (hG : GT M0 T) (hT : M 53 0 = (T : Int)) (hc : Lab (eD M0) T c) : Cm l yX6_nets cX6_nets 5 none 3 84 [vR 53] M (fun r M' => r = none ∧ FN M M' ∧ ∀ t, t < T → M' 58 t = (c t : Int)) := by
  refine cmo [some (vR 53), none, none, none, none] ?_
  have h8 := hG.1
  have l1 : ∀ (m1 : Nat) (t : Nat) (Ma : Mem), T < t + m1 → t ≤ T → FN M Ma → (∀ q, q < t → Ma 58 q = (q : Int)) → Em l yX6_nets cX6_nets 5 none 3 84 (fun r M' => r = none ∧ FN M M' ∧ ∀ t, t < T → M' 58 t = (c t : Int)) 2 [some (vR 53), some (vI (t : Int)), none, none, none] [] Ma := by
    intro m1
    induction m1 with
    | zero => intro t Ma h1 h2 hF hv; omega
    | succ m1 ihl1 =>
      intro t Ma h1 h2 hF hv
      have hN := hF.n
      refine ev_iload_n dX6_nets_2 rfl ?_
      refine ev_aload_n dX6_nets_3 rfl ?_
      refine em_getI fX6_40.g dX6_nets_4 lay_53 rfl ?_
      refine ev_icmp_ge 23 dX6_nets_7 (by omega) (by omega) (fun c1 => ?_) (fun c1 => ?_)
      · have et : T = t := by omega
        subst et
        have times : ∀ (m2 : Nat) (tm : Nat) (M1 : Mem) (f : Nat → Nat), T < tm + m2 → tm ≤ T → FN M M1 → (∀ t, t < T → M1 58 t = (f t : Int)) → Lin (eD M0) T f → (tm + 1 ≤ gd f c T ∨ gd f c T = T) → Em l yX6_nets cX6_nets 5 none 3 84 (fun r M' => r = none ∧ FN M M' ∧ ∀ t, t < T → M' 58 t = (c t : Int)) 25 [some (vR 53), some (vI (tm : Int)), none, none, none] [] M1 := by
          intro m2
          induction m2 with
          | zero => intro tm M1 f h3 h4 hF1 hv1 hlin hgd; omega
          | succ m2 ihtimes =>
            intro tm M1 f h3 h4 hF1 hv1 hlin hgd
            have hN := hF1.n
            refine ev_iload_n dX6_nets_25 rfl ?_
            refine ev_aload_n dX6_nets_26 rfl ?_
            refine em_getI fX6_40.g dX6_nets_27 lay_53 rfl ?_
            refine ev_icmp_ge 130 dX6_nets_30 (by omega) (by omega) (fun c2 => ?_) (fun c2 => ?_)
            · have e1 := gd_le f c T
              have e2 := gd_all (f := f) (c := c) (n := T) (by omega)
              exact em_vret dX6_nets_130 ⟨rfl, hF1, fun t ht => by rw [hv1 t ht, e2 t ht]⟩
            · refine ev_iconst dX6_nets_33 ?_
              refine ev_istore_n dX6_nets_34 (by decide) ?_
              refine ev_ls [some (vR _), some (vI _), some (vI _), none, none] rfl ?_
              have la : ∀ (m3 : Nat) (a : Nat) (M2 : Mem) (g : Nat → Nat), T < a + m3 → a ≤ T → FN M M2 → (∀ t, t < T → M2 58 t = (g t : Int)) → Lin (eD M0) T g → (∀ t, t < T → g t ≤ f t) → (∀ x z, x < z → z < T → eD M0 x z → x < a → g x ≤ f z ∧ g z ≤ f x) → Em l yX6_nets cX6_nets 5 none 3 84 (fun r M' => r = none ∧ FN M M' ∧ ∀ t, t < T → M' 58 t = (c t : Int)) 35 [some (vR 53), some (vI (tm : Int)), some (vI (a : Int)), none, none] [] M2 := by
                intro m3
                induction m3 with
                | zero => intro a M2 g h5 h6 hF2 hv2 hlg hle hpr; omega
                | succ m3 ihla =>
                  intro a M2 g h5 h6 hF2 hv2 hlg hle hpr
                  have hN := hF2.n
                  refine ev_iload_n dX6_nets_35 rfl ?_
                  refine ev_aload_n dX6_nets_36 rfl ?_
                  refine em_getI fX6_40.g dX6_nets_37 lay_53 rfl ?_
                  refine ev_icmp_ge 124 dX6_nets_40 (by omega) (by omega) (fun c3 => ?_) (fun c3 => ?_)
                  · refine ev_iinc dX6_nets_124 rfl (by decide) ?_
                    refine ev_ls [some (vR _), some (vI _), some (vI _), none, none] rfl ?_
                    refine ev_goto 25 dX6_nets_127 ?_
                    refine ev_mask [true, true, false, false, false] ?_
                    have hgd : tm + 1 + 1 ≤ gd g c T ∨ gd g c T = T := by
                      have e1 := gd_le g c T
                      have e2 := gd_le f c T
                      by_cases q : gd f c T < T
                      · have := lin_round hc hlin hlg hle (fun x z h1 h2 h3 => hpr x z h1 h2 h3 (by omega)) q
                        omega
                      · have := gd_mono (f := f) (g := g) (c := c) (n := T) (fun t ht q1 => by have := lin_ge hc hlg ht; have := hle t ht; omega)
                        omega
                    exact ihtimes (tm + 1) M2 g (by omega) (by omega) hF2 hv2 hlg hgd
                  · refine ev_iload_n dX6_nets_43 rfl ?_
                    refine ev_iconst dX6_nets_44 ?_
                    refine ev_iadd dX6_nets_45 ?_
                    refine ev_istore_n dX6_nets_46 (by decide) ?_
                    refine ev_ls [some (vR _), some (vI _), some (vI _), some (vI _), none] rfl ?_
                    have lb : ∀ (m4 : Nat) (b : Nat) (M3 : Mem) (h : Nat → Nat), T < b + m4 → b ≤ T → a < b → FN M M3 → (∀ t, t < T → M3 58 t = (h t : Int)) → Lin (eD M0) T h → (∀ t, t < T → h t ≤ f t) → (∀ x z, x < z → z < T → eD M0 x z → (x < a ∨ (x = a ∧ z < b)) → h x ≤ f z ∧ h z ≤ f x) → Em l yX6_nets cX6_nets 5 none 3 84 (fun r M' => r = none ∧ FN M M' ∧ ∀ t, t < T → M' 58 t = (c t : Int)) 47 [some (vR 53), some (vI (tm : Int)), some (vI (a : Int)), some (vI (b : Int)), none] [] M3 := by
                      intro m4
                      induction m4 with
                      | zero => intro b M3 h h7 h8b hab hF3 hv3 hlh hlf hpq; omega
                      | succ m4 ihlb =>
                        intro b M3 h h7 h8b hab hF3 hv3 hlh hlf hpq
                        have hN := hF3.n
                        have hE3 := hF3.en hE
                        refine ev_iload_n dX6_nets_47 rfl ?_
                        refine ev_aload_n dX6_nets_48 rfl ?_
                        refine em_getI fX6_40.g dX6_nets_49 lay_53 rfl ?_
                        refine ev_icmp_ge 118 dX6_nets_52 (by omega) (by omega) (fun c4 => ?_) (fun c4 => ?_)
                        · refine ev_iinc dX6_nets_118 rfl (by decide) ?_
                          refine ev_ls [some (vR _), some (vI _), some (vI _), some (vI _), none] rfl ?_
                          refine ev_goto 35 dX6_nets_121 ?_
                          refine ev_mask [true, true, true, false, false] ?_
                          exact ihla (a + 1) M3 h (by omega) (by omega) hF3 hv3 hlh hlf (fun x z h1 h2 h3 h4 => hpq x z h1 h2 h3 (by omega))
                        · refine ev_aload_n dX6_nets_55 rfl ?_
                          refine ev_iload_n dX6_nets_56 rfl ?_
                          refine ev_iload_n dX6_nets_57 rfl ?_
                          refine em_V2 (d_differ l hE3 hG (by omega) (by omega)) mX6_118 dX6_nets_58 lay_53 ?_
                          rintro r M4 ⟨k58, f58, hE58, z58, rfl, hd⟩
                          refine ev_if_eq 112 dX6_nets_61 (by omega) (fun c61 => ?_) (fun c61 => ?_)
                          · refine ev_iinc dX6_nets_112 rfl (by decide) ?_
                            refine ev_ls [some (vR _), some (vI _), some (vI _), some (vI _), none] rfl ?_
                            refine ev_goto 47 dX6_nets_115 ?_
                            exact ihlb (b + 1) M4 h (by omega) (by omega) (by omega) (hF3.fr ⟨k58, f58⟩) (fun t ht => by rw [k58 58 (by omega)]; exact hv3 t ht) hlh hlf (fun x z h1 h2 h3 h4 => by rcases h4 with h4 | ⟨h4, h5⟩; exact hpq x z h1 h2 h3 (Or.inl h4); by_cases q : z = b; (subst q; subst h4; exact absurd h3 (by rcases hd with hd | hd; exact hd.2; omega)); (exact hpq x z h1 h2 h3 (by omega)))
                          · have hed : eD M0 a b := by rcases hd with hd | hd; omega; exact hd.2.1
                            have va : M4 58 a = (h a : Int) := by rw [k58 58 (by omega)]; exact hv3 a (by omega)
                            have vb : M4 58 b = (h b : Int) := by rw [k58 58 (by omega)]; exact hv3 b (by omega)
                            have la1 := hlh.1 a (by omega)
                            have lb1 := hlh.1 b (by omega)
                            refine ev_aload_n dX6_nets_64 rfl ?_
                            refine em_getR fX6_23.g dX6_nets_65 lay_53 rfl ?_
                            refine ev_iload_n dX6_nets_68 rfl ?_
                            refine en_iald a dX6_nets_69 lay_58 (by omega) (by omega) ?_
                            refine ev_aload_n dX6_nets_70 rfl ?_
                            refine em_getR fX6_23.g dX6_nets_71 lay_53 rfl ?_
                            refine ev_iload_n dX6_nets_74 rfl ?_
                            refine en_iald b dX6_nets_75 lay_58 (by omega) (by omega) ?_
                            refine ev_icmp_ge 88 dX6_nets_76 (by omega) (by omega) (fun c76 => ?_) (fun c76 => ?_)
                            · refine ev_aload_n dX6_nets_88 rfl ?_
                              refine em_getR fX6_23.g dX6_nets_89 lay_53 rfl ?_
                              refine ev_iload_n dX6_nets_92 rfl ?_
                              refine en_iald b dX6_nets_93 lay_58 (by omega) (by omega) ?_
                              first | rw [show M4 58 a = ((min (h a) (h b) : Nat) : Int) by omega] | rw [show M4 58 b = ((min (h a) (h b) : Nat) : Int) by omega]
                              refine ev_istore dX6_nets_94 (by decide) ?_
                              refine ev_ls [some (vR _), some (vI _), some (vI _), some (vI _), some (vI _)] rfl ?_
                              refine ev_aload_n dX6_nets_96 rfl ?_
                              refine em_getR fX6_23.g dX6_nets_97 lay_53 rfl ?_
                              refine ev_iload_n dX6_nets_100 rfl ?_
                              refine ev_iload dX6_nets_101 rfl ?_
                              refine en_iast a dX6_nets_103 lay_58 (by omega) (by omega) ?_
                              refine ev_aload_n dX6_nets_104 rfl ?_
                              refine em_getR fX6_23.g dX6_nets_105 lay_53 rfl ?_
                              refine ev_iload_n dX6_nets_108 rfl ?_
                              refine ev_iload dX6_nets_109 rfl ?_
                              refine en_iast b dX6_nets_111 lay_58 (by omega) (by omega) ?_
                              refine ev_iinc dX6_nets_112 rfl (by decide) ?_
                              refine ev_ls [some (vR _), some (vI _), some (vI _), some (vI _), some (vI _)] rfl ?_
                              refine ev_goto 47 dX6_nets_115 ?_
                              refine ev_mask [true, true, true, true, false] ?_
                              have hlu := lin_upd hlh (show a < b by omega) (by omega) hed
                              refine ihlb (b + 1) _ (va_up (va_up h a (min (h a) (h b))) b (min (h a) (h b))) (by omega) (by omega) (by omega) (((hF3.fr ⟨k58, f58⟩).up _ _).up _ _) ?_ hlu ?_ ?_
                              · intro t ht
                                rw [up2_at, up2_at]
                                by_cases q : t = b
                                · rw [if_pos ⟨rfl, q⟩, q, va_up_self]
                                · rw [if_neg (by omega), va_up_ne _ _ q]
                                  by_cases q2 : t = a
                                  · rw [if_pos ⟨rfl, q2⟩, q2, va_up_self]
                                  · rw [if_neg (by omega), va_up_ne _ _ q2, k58 58 (by omega)]; exact hv3 t ht
                              · intro t ht
                                have u1 := hlf t ht
                                by_cases q : t = b
                                · subst q; rw [va_up_self]; omega
                                · rw [va_up_ne _ _ q]
                                  by_cases q2 : t = a
                                  · subst q2; rw [va_up_self]; omega
                                  · rw [va_up_ne _ _ q2]; exact u1
                              · intro x z h1 h2 h3 h4
                                have lx : va_up (va_up h a (min (h a) (h b))) b (min (h a) (h b)) x ≤ h x := by
                                  by_cases q : x = b
                                  · subst q; rw [va_up_self]; omega
                                  · rw [va_up_ne _ _ q]
                                    by_cases q2 : x = a
                                    · subst q2; rw [va_up_self]; omega
                                    · rw [va_up_ne _ _ q2]; omega
                                have lz : va_up (va_up h a (min (h a) (h b))) b (min (h a) (h b)) z ≤ h z := by
                                  by_cases q : z = b
                                  · subst q; rw [va_up_self]; omega
                                  · rw [va_up_ne _ _ q]
                                    by_cases q2 : z = a
                                    · subst q2; rw [va_up_self]; omega
                                    · rw [va_up_ne _ _ q2]; omega
                                by_cases q : x = a ∧ z = b
                                · obtain ⟨rfl, rfl⟩ := q
                                  have u1 := hlf x (by omega)
                                  have u2 := hlf z (by omega)
                                  rw [va_up_self, va_up_ne _ _ (show x ≠ z by omega), va_up_self]
                                  omega
                                · have := hpq x z h1 h2 h3 (by omega)
                                  omega
                            · refine ev_aload_n dX6_nets_79 rfl ?_
                              refine em_getR fX6_23.g dX6_nets_80 lay_53 rfl ?_
                              refine ev_iload_n dX6_nets_83 rfl ?_
                              refine en_iald a dX6_nets_84 lay_58 (by omega) (by omega) ?_
                              refine ev_goto 94 dX6_nets_85 ?_
                              first | rw [show M4 58 a = ((min (h a) (h b) : Nat) : Int) by omega] | rw [show M4 58 b = ((min (h a) (h b) : Nat) : Int) by omega]
                              refine ev_istore dX6_nets_94 (by decide) ?_
                              refine ev_ls [some (vR _), some (vI _), some (vI _), some (vI _), some (vI _)] rfl ?_
                              refine ev_aload_n dX6_nets_96 rfl ?_
                              refine em_getR fX6_23.g dX6_nets_97 lay_53 rfl ?_
                              refine ev_iload_n dX6_nets_100 rfl ?_
                              refine ev_iload dX6_nets_101 rfl ?_
                              refine en_iast a dX6_nets_103 lay_58 (by omega) (by omega) ?_
                              refine ev_aload_n dX6_nets_104 rfl ?_
                              refine em_getR fX6_23.g dX6_nets_105 lay_53 rfl ?_
                              refine ev_iload_n dX6_nets_108 rfl ?_
                              refine ev_iload dX6_nets_109 rfl ?_
                              refine en_iast b dX6_nets_111 lay_58 (by omega) (by omega) ?_
                              refine ev_iinc dX6_nets_112 rfl (by decide) ?_
                              refine ev_ls [some (vR _), some (vI _), some (vI _), some (vI _), some (vI _)] rfl ?_
                              refine ev_goto 47 dX6_nets_115 ?_
                              refine ev_mask [true, true, true, true, false] ?_
                              have hlu := lin_upd hlh (show a < b by omega) (by omega) hed
                              refine ihlb (b + 1) _ (va_up (va_up h a (min (h a) (h b))) b (min (h a) (h b))) (by omega) (by omega) (by omega) (((hF3.fr ⟨k58, f58⟩).up _ _).up _ _) ?_ hlu ?_ ?_
                              · intro t ht
                                rw [up2_at, up2_at]
                                by_cases q : t = b
                                · rw [if_pos ⟨rfl, q⟩, q, va_up_self]
                                · rw [if_neg (by omega), va_up_ne _ _ q]
                                  by_cases q2 : t = a
                                  · rw [if_pos ⟨rfl, q2⟩, q2, va_up_self]
                                  · rw [if_neg (by omega), va_up_ne _ _ q2, k58 58 (by omega)]; exact hv3 t ht
                              · intro t ht
                                have u1 := hlf t ht
                                by_cases q : t = b
                                · subst q; rw [va_up_self]; omega
                                · rw [va_up_ne _ _ q]
                                  by_cases q2 : t = a
                                  · subst q2; rw [va_up_self]; omega
                                  · rw [va_up_ne _ _ q2]; exact u1
                              · intro x z h1 h2 h3 h4
                                have lx : va_up (va_up h a (min (h a) (h b))) b (min (h a) (h b)) x ≤ h x := by
                                  by_cases q : x = b
                                  · subst q; rw [va_up_self]; omega
                                  · rw [va_up_ne _ _ q]
                                    by_cases q2 : x = a
                                    · subst q2; rw [va_up_self]; omega
                                    · rw [va_up_ne _ _ q2]; omega
                                have lz : va_up (va_up h a (min (h a) (h b))) b (min (h a) (h b)) z ≤ h z := by
                                  by_cases q : z = b
                                  · subst q; rw [va_up_self]; omega
                                  · rw [va_up_ne _ _ q]
                                    by_cases q2 : z = a
                                    · subst q2; rw [va_up_self]; omega
                                    · rw [va_up_ne _ _ q2]; omega
                                by_cases q : x = a ∧ z = b
                                · obtain ⟨rfl, rfl⟩ := q
                                  have u1 := hlf x (by omega)
                                  have u2 := hlf z (by omega)
                                  rw [va_up_self, va_up_ne _ _ (show x ≠ z by omega), va_up_self]
                                  omega
                                · have := hpq x z h1 h2 h3 (by omega)
                                  omega
                    exact lb (T + 1) (a + 1) M2 g (by omega) (by omega) (by omega) hF2 hv2 hlg hle (fun x z h1 h2 h3 h4 => hpr x z h1 h2 h3 (by omega))
              exact la (T + 1) 0 M1 f (by omega) (by omega) hF1 hv1 hlin (fun t ht => Nat.le_refl _) (fun x z h1 h2 h3 h4 => by omega)
        refine ev_iconst dX6_nets_23 ?_
        refine ev_istore_n dX6_nets_24 (by decide) ?_
        refine ev_ls [some (vR _), some (vI _), none, none, none] rfl ?_
        exact times (T + 1) 0 Ma (fun t => t) (by omega) (by omega) hF hv (lin_id _ _) (by rcases Nat.eq_zero_or_pos T with q | q; (subst q; exact Or.inr rfl); (exact Or.inl (gd_id q (hc.2.1 0 q))))
      · refine ev_aload_n dX6_nets_10 rfl ?_
        refine em_getR fX6_23.g dX6_nets_11 lay_53 rfl ?_
        refine ev_iload_n dX6_nets_14 rfl ?_
        refine ev_iload_n dX6_nets_15 rfl ?_
        refine en_iast t dX6_nets_16 lay_58 (by omega) (by omega) ?_
        refine ev_iinc dX6_nets_17 rfl (by decide) ?_
        refine ev_ls [some (vR _), some (vI _), none, none, none] rfl ?_
        refine ev_goto 2 dX6_nets_20 ?_
        exact ihl1 (t + 1) _ (by omega) (by omega) (hF.up _ _) (fun q hq => by rw [up2_at]; by_cases e : q = t; (rw [if_pos ⟨rfl, e⟩, e]); (rw [if_neg (by omega)]; exact hv q (by omega)))
  refine ev_iconst dX6_nets_0 ?_
  refine ev_istore_n dX6_nets_1 (by decide) ?_
  refine ev_ls [some (vR _), some (vI _), none, none, none] rfl ?_
  exact l1 (T + 1) 0 M (by omega) (by omega) (FN.rf M) (fun q hq => by omega)
end
section
/-! determinants by the last row; Cramer -/
def sk (j c : Nat) : Nat := if c < j then c else c + 1
def un (j q : Nat) : Nat := if q < j then q else q - 1
def sg (n : Nat) : Int := if n % 2 = 0 then 1 else -1
def dt : Nat → (Nat → Nat → Int) → Int
  | 0, _ => 1
  | n + 1, A => sm (n + 1) (fun j => sg (n + j) * A n j * dt n (fun r c => A r (sk j c)))
theorem sk_le {j c n : Nat} (hj : j ≤ n) (hc : c < n) : sk j c ≤ n := by unfold sk; split <;> omega
theorem sk_ne (j c : Nat) : sk j c ≠ j := by unfold sk; split <;> omega
theorem un_sk (j l : Nat) : un j (sk j l) = l := by
  unfold sk un
  repeat' split
  all_goals omega
theorem sg_mul (a b : Nat) : sg a * sg b = sg (a + b) := by
  unfold sg
  rcases Nat.mod_two_eq_zero_or_one a with h1 | h1 <;> rcases Nat.mod_two_eq_zero_or_one b with h2 | h2
  · rw [if_pos h1, if_pos h2, if_pos (by omega)]; rfl
  · rw [if_pos h1, if_neg (by omega), if_neg (by omega)]; rfl
  · rw [if_neg (by omega), if_pos h2, if_neg (by omega)]; rfl
  · rw [if_neg (by omega), if_neg (by omega), if_pos (by omega)]; rfl
theorem sg_even (a : Nat) : sg (a + a) = 1 := by unfold sg; rw [if_pos (by omega)]
theorem sg_succ (a : Nat) : sg (a + 1) = -sg a := by
  unfold sg
  rcases Nat.mod_two_eq_zero_or_one a with h1 | h1
  · rw [if_pos h1, if_neg (by omega)]
  · rw [if_pos (show (a + 1) % 2 = 0 by omega), if_neg (show ¬ a % 2 = 0 by omega)]; rfl
theorem dt_congr : ∀ {n : Nat} {A B : Nat → Nat → Int}, (∀ r c, r < n → c < n → A r c = B r c) → dt n A = dt n B
  | 0, _, _, _ => rfl
  | n + 1, A, B, h => by
    show sm (n + 1) _ = sm (n + 1) _
    apply sm_congr
    intro j hj
    rw [h n j (by omega) hj, dt_congr (n := n) (A := fun r c => A r (sk j c)) (B := fun r c => B r (sk j c)) (fun r c hr hc => h r (sk j c) (by omega) (by have := sk_le (show j ≤ n by omega) hc; omega))]
theorem sm_skip (g : Nat → Int) {j : Nat} : ∀ {n : Nat}, j ≤ n → sm n (fun l => g (sk j l)) = sm (n + 1) (fun q => if q = j then 0 else g q)
  | 0, h => by
    have e : j = 0 := by omega
    subst e
    rfl
  | n + 1, h => by
    show sm n (fun l => g (sk j l)) + g (sk j n) = sm (n + 1) _ + (if n + 1 = j then 0 else g (n + 1))
    by_cases e : j = n + 1
    · subst e
      rw [if_pos rfl]
      have h1 : sm n (fun l => g (sk (n + 1) l)) = sm n g := sm_congr (fun i hi => by unfold sk; rw [if_pos (by omega)])
      have h2 : sm (n + 1) (fun q => if q = n + 1 then 0 else g q) = sm (n + 1) g := sm_congr (fun i hi => if_neg (by omega))
      rw [h1, h2, show sk (n + 1) n = n by unfold sk; rw [if_pos (by omega)]]
      show _ = sm n g + g n + 0
      omega
    · rw [sm_skip g (n := n) (by omega), if_neg (by omega), show sk j n = n + 1 by unfold sk; rw [if_neg (by omega)]]
/-- the last two rows, changed -/
def swp (n : Nat) (A : Nat → Nat → Int) : Nat → Nat → Int := fun r c => if r = n then A (n + 1) c else if r = n + 1 then A n c else A r c
theorem sk2 (j q c : Nat) (h : q ≠ j) : sk j (sk (un j q) c) = sk q (sk (un q j) c) := by
  unfold sk un
  by_cases h1 : q < j
  · rw [if_pos h1, if_neg (show ¬ j < q by omega)]
    repeat' split
    all_goals omega
  · rw [if_neg h1, if_pos (show j < q by omega)]
    repeat' split
    all_goals omega
theorem sg2 (n j q : Nat) (h : q ≠ j) : sg (n + 1 + j) * sg (n + un j q) = -(sg (n + 1 + q) * sg (n + un q j)) := by
  rw [sg_mul, sg_mul]
  unfold un
  by_cases h1 : q < j
  · rw [if_pos h1, if_neg (show ¬ j < q by omega), show n + 1 + j + (n + q) = (n + 1 + q + (n + (j - 1))) + 1 by omega, sg_succ]
  · rw [if_neg h1, if_pos (show j < q by omega), show n + 1 + q + (n + j) = (n + 1 + j + (n + (q - 1))) + 1 by omega, sg_succ, Int.neg_neg]
theorem dt2 (n : Nat) (A : Nat → Nat → Int) : dt (n + 2) A = sm (n + 2) (fun j => sm (n + 2) (fun q => if q = j then 0 else sg (n + 1 + j) * A (n + 1) j * (sg (n + un j q) * A n q * dt n (fun r c => A r (sk j (sk (un j q) c)))))) := by
  show sm (n + 2) _ = _
  apply sm_congr
  intro j hj
  have h1 : dt (n + 1) (fun r c => A r (sk j c)) = sm (n + 2) (fun q => if q = j then 0 else sg (n + un j q) * A n q * dt n (fun r c => A r (sk j (sk (un j q) c)))) := by
    rw [← sm_skip (fun q => sg (n + un j q) * A n q * dt n (fun r c => A r (sk j (sk (un j q) c)))) (show j ≤ n + 1 by omega)]
    show sm (n + 1) _ = _
    apply sm_congr
    intro l hl
    rw [un_sk]
  rw [h1, ← sm_mul]
  apply sm_congr
  intro q hq
  by_cases e : q = j
  · rw [if_pos e, if_pos e, Int.mul_zero]
  · rw [if_neg e, if_neg e]
theorem dt_swap (n : Nat) (A : Nat → Nat → Int) : dt (n + 2) (swp n A) = -dt (n + 2) A := by
  rw [dt2, dt2, sm_comm, ← sm_neg]
  apply sm_congr
  intro j hj
  rw [← sm_neg]
  apply sm_congr
  intro q hq
  by_cases e : q = j
  · rw [if_pos e.symm, if_pos e]; rfl
  · rw [if_neg (fun z => e z.symm), if_neg e]
    have e1 : swp n A (n + 1) q = A n q := by unfold swp; rw [if_neg (by omega), if_pos rfl]
    have e2 : swp n A n j = A (n + 1) j := by unfold swp; rw [if_pos rfl]
    have e3 : dt n (fun r c => swp n A r (sk q (sk (un q j) c))) = dt n (fun r c => A r (sk j (sk (un j q) c))) := by
      apply dt_congr
      intro r c hr hc
      rw [← sk2 j q c e]
      unfold swp
      rw [if_neg (by omega), if_neg (by omega)]
    have h := sg2 n j q e
    rw [e1, e2, e3]
    generalize dt n (fun r c => A r (sk j (sk (un j q) c))) = d
    generalize sg (n + 1 + j) = s1 at *
    generalize sg (n + un j q) = s2 at *
    generalize sg (n + 1 + q) = s3 at *
    generalize sg (n + un q j) = s4 at *
    grind
theorem dt_dup : ∀ {n : Nat} {A : Nat → Nat → Int} {i : Nat}, i < n → (∀ c, c ≤ n → A i c = A n c) → dt (n + 1) A = 0
  | 0, A, i, hi, _ => by omega
  | n + 1, A, i, hi, h => by
    by_cases e : i = n
    · subst e
      have h1 := dt_swap i A
      have h2 : dt (i + 2) (swp i A) = dt (i + 2) A := dt_congr (fun r c hr hc => by
        unfold swp
        by_cases q : r = i
        · rw [if_pos q, q]; exact (h c (by omega)).symm
        · rw [if_neg q]
          by_cases q2 : r = i + 1
          · rw [if_pos q2, q2]; exact h c (by omega)
          · rw [if_neg q2])
      rw [h2] at h1
      show dt (i + 2) A = 0
      omega
    · have h1 := dt_swap n A
      have h2 : dt (n + 2) (swp n A) = 0 := by
        show sm (n + 2) _ = 0
        apply sm_zero
        intro j hj
        have h3 : dt (n + 1) (fun r c => swp n A r (sk j c)) = 0 := by
          apply dt_dup (n := n) (i := i) (by omega)
          intro c hc
          show swp n A i (sk j c) = swp n A n (sk j c)
          have hs := sk_le (show j ≤ n + 1 by omega) (show c < n + 1 by omega)
          unfold swp
          rw [if_neg (by omega), if_neg (by omega), if_pos rfl]
          exact h _ hs
        rw [h3, Int.mul_zero]
      rw [h2] at h1
      show dt (n + 2) A = 0
      omega
/-- a column v beside the first k columns -/
def bc (k : Nat) (A : Nat → Nat → Int) (v : Nat → Int) : Nat → Nat → Int := fun r c => if c = k then v r else A r c
/-- Cramer's numbers -/
def Gs (k : Nat) (A : Nat → Nat → Int) (v : Nat → Int) (j : Nat) : Int := -(sg (k + j) * dt k (fun r c => bc k A v r (sk j c)))
theorem bc_last (k : Nat) (A : Nat → Nat → Int) (v : Nat → Int) : dt k (fun r c => bc k A v r (sk k c)) = dt k A := by
  apply dt_congr
  intro r c hr hc
  unfold bc sk
  rw [if_pos hc, if_neg (by omega)]
theorem cramer {k : Nat} (A : Nat → Nat → Int) (v : Nat → Int) {r : Nat} (hr : r < k) : sm k (fun j => A r j * Gs k A v j) = dt k A * v r := by
  have h0 : dt (k + 1) (fun a c => if a = k then bc k A v r c else bc k A v a c) = 0 := by
    apply dt_dup (i := r) hr
    intro c hc
    rw [if_neg (by omega), if_pos rfl]
  have h1 : dt (k + 1) (fun a c => if a = k then bc k A v r c else bc k A v a c) = sm k (fun j => -(A r j * Gs k A v j)) + dt k A * v r := by
    show sm k _ + _ = _
    have e1 : ∀ j, dt k (fun a c => if a = k then bc k A v r (sk j c) else bc k A v a (sk j c)) = dt k (fun a c => bc k A v a (sk j c)) := fun j => dt_congr (fun a c ha hc => if_neg (by omega))
    congr 1
    · apply sm_congr
      intro j hj
      show sg (k + j) * (if k = k then bc k A v r j else bc k A v k j) * dt k (fun a c => if a = k then bc k A v r (sk j c) else bc k A v a (sk j c)) = _
      rw [e1, if_pos rfl]
      unfold Gs
      rw [show bc k A v r j = A r j by unfold bc; rw [if_neg (by omega)]]
      generalize dt k (fun a c => bc k A v a (sk j c)) = d
      generalize sg (k + j) = s
      grind
    · show sg (k + k) * (if k = k then bc k A v r k else bc k A v k k) * dt k (fun a c => if a = k then bc k A v r (sk k c) else bc k A v a (sk k c)) = _
      rw [e1, if_pos rfl, bc_last, sg_even, show bc k A v r k = v r by unfold bc; rw [if_pos rfl]]
      grind
  rw [h1, sm_neg] at h0
  omega
theorem dt_next (k : Nat) (A : Nat → Nat → Int) : dt (k + 1) A = A k k * dt k A - sm k (fun j => A k j * Gs k A (fun r => A r k) j) := by
  show sm k _ + sg (k + k) * A k k * dt k (fun r c => A r (sk k c)) = _
  have e1 : ∀ j, dt k (fun r c => A r (sk j c)) = dt k (fun r c => bc k A (fun r => A r k) r (sk j c)) := fun j => dt_congr (fun r c hr hc => by
    unfold bc
    by_cases q : sk j c = k
    · rw [if_pos q, q]
    · rw [if_neg q])
  rw [e1 k, bc_last, sg_even]
  have e2 : sm k (fun j => sg (k + j) * A k j * dt k (fun r c => A r (sk j c))) = sm k (fun j => -(A k j * Gs k A (fun r => A r k) j)) := by
    apply sm_congr
    intro j hj
    rw [e1 j]
    unfold Gs
    generalize dt k (fun r c => bc k A (fun r => A r k) r (sk j c)) = d
    generalize sg (k + j) = s
    grind
  rw [e2, sm_neg]
  grind
end
section
/-! Bareiss' elimination of a symmetric matrix, and its ranges -/
abbrev Sy (N : Nat) (A : Nat → Nat → Int) : Prop := ∀ r c, r < N → c < N → A r c = A c r
abbrev col (A : Nat → Nat → Int) (c : Nat) : Nat → Int := fun r => A r c
/-- the row r of what is left behind k steps, at the column v -/
def Ss (k : Nat) (A : Nat → Nat → Int) (r : Nat) (v : Nat → Int) : Int := dt k A * v r - sm k (fun j => A r j * Gs k A v j)
theorem Ss_piv (k : Nat) (A : Nat → Nat → Int) : Ss k A k (col A k) = dt (k + 1) A := by
  rw [dt_next]
  unfold Ss
  show dt k A * A k k - sm k (fun j => A k j * Gs k A (fun r => A r k) j) = _
  rw [Int.mul_comm]
theorem Ss_zero (A : Nat → Nat → Int) (r : Nat) (v : Nat → Int) : Ss 0 A r v = v r := by
  unfold Ss
  show 1 * v r - 0 = v r
  omega
theorem Ss_done {k : Nat} (A : Nat → Nat → Int) {r : Nat} (v : Nat → Int) (hr : r < k) : Ss k A r v = 0 := by
  unfold Ss
  rw [cramer A v hr]
  omega
theorem inj_z {N k : Nat} {A : Nat → Nat → Int} (hs : Sy N A) (hk : k ≤ N) (hD : dt k A ≠ 0) {z : Nat → Int} (hz : ∀ r, r < k → sm k (fun j => A r j * z j) = 0) : ∀ i, i < k → z i = 0 := by
  intro i hi
  have h1 : sm k (fun r => z r * sm k (fun j => A r j * Gs k A (fun q => if q = i then 1 else 0) j)) = z i * dt k A := by
    rw [sm_one (k := i) hi]
    · rw [cramer A _ hi, if_pos rfl, Int.mul_one]
    · intro q hq hne
      rw [cramer A _ hq, if_neg hne, Int.mul_zero, Int.mul_zero]
  have h2 : sm k (fun r => z r * sm k (fun j => A r j * Gs k A (fun q => if q = i then 1 else 0) j)) = 0 := by
    have e1 : sm k (fun r => z r * sm k (fun j => A r j * Gs k A (fun q => if q = i then 1 else 0) j)) = sm k (fun r => sm k (fun j => Gs k A (fun q => if q = i then 1 else 0) j * (A j r * z r))) := by
      apply sm_congr
      intro r hr
      rw [← sm_mul]
      apply sm_congr
      intro j hj
      rw [hs r j (by omega) (by omega)]
      generalize Gs k A (fun q => if q = i then 1 else 0) j = g
      grind
    rw [e1, sm_comm]
    apply sm_zero
    intro j hj
    rw [sm_mul, hz j hj, Int.mul_zero]
  rw [h2] at h1
  rcases Int.mul_eq_zero.mp h1.symm with h | h
  · exact h
  · exact absurd h hD
theorem inj_eq {N k : Nat} {A : Nat → Nat → Int} (hs : Sy N A) (hk : k ≤ N) (hD : dt k A ≠ 0) {x z : Nat → Int} (h : ∀ r, r < k → sm k (fun j => A r j * x j) = sm k (fun j => A r j * z j)) : ∀ i, i < k → x i = z i := by
  have := inj_z hs hk hD (z := fun i => x i - z i) (fun r hr => by
    have e : sm k (fun j => A r j * (x j - z j)) = sm k (fun j => A r j * x j) - sm k (fun j => A r j * z j) := by
      rw [← sm_sub]
      exact sm_congr (fun j _ => Int.mul_sub _ _ _)
    rw [e, h r hr]; omega)
  intro i hi
  have := this i hi
  omega
theorem rec_Y {N k : Nat} {A : Nat → Nat → Int} (hs : Sy N A) (hk : k < N) (hD : dt (k + 1) A ≠ 0) (v : Nat → Int) : (∀ j, j < k → dt (k + 1) A * Gs k A v j - Gs k A (col A k) j * Ss k A k v = dt k A * Gs (k + 1) A v j) ∧ dt k A * Ss k A k v = dt k A * Gs (k + 1) A v k := by
  have key := inj_eq hs (show k + 1 ≤ N by omega) hD (x := fun j => if j < k then dt (k + 1) A * Gs k A v j - Gs k A (col A k) j * Ss k A k v else dt k A * Ss k A k v) (z := fun j => dt k A * Gs (k + 1) A v j) (fun r hr => by
    have e1 : sm (k + 1) (fun j => A r j * (dt k A * Gs (k + 1) A v j)) = dt k A * (dt (k + 1) A * v r) := by
      rw [← cramer A v hr, ← sm_mul]
      exact sm_congr (fun j _ => by grind)
    rw [e1]
    show sm k _ + A r k * (if k < k then _ else dt k A * Ss k A k v) = _
    rw [if_neg (by omega)]
    have e2 : sm k (fun j => A r j * (if j < k then dt (k + 1) A * Gs k A v j - Gs k A (col A k) j * Ss k A k v else dt k A * Ss k A k v)) = dt (k + 1) A * sm k (fun j => A r j * Gs k A v j) - sm k (fun j => A r j * Gs k A (col A k) j) * Ss k A k v := by
      rw [← sm_mul, ← sm_mulr, ← sm_sub]
      apply sm_congr
      intro j hj
      rw [if_pos hj]
      generalize Ss k A k v = s
      generalize Gs k A v j = g
      generalize Gs k A (col A k) j = g2
      generalize dt (k + 1) A = d
      grind
    rw [e2]
    by_cases q : r < k
    · rw [cramer A v q, cramer A (col A k) q]
      generalize Ss k A k v = s
      generalize dt (k + 1) A = d
      generalize dt k A = d0
      show d * (d0 * v r) - d0 * A r k * s + A r k * (d0 * s) = _
      grind
    · have er : r = k := by omega
      subst er
      have h1 : sm r (fun j => A r j * Gs r A v j) = dt r A * v r - Ss r A r v := by unfold Ss; omega
      have h2 : sm r (fun j => A r j * Gs r A (col A r) j) = A r r * dt r A - dt (r + 1) A := by
        have q1 := Ss_piv r A
        unfold Ss at q1
        have q2 : dt r A * col A r r = A r r * dt r A := Int.mul_comm _ _
        omega
      rw [h1, h2]
      generalize Ss r A r v = s
      generalize dt (r + 1) A = d
      generalize dt r A = d0
      grind)
  refine ⟨fun j hj => ?_, ?_⟩
  · have := key j (by omega)
    rw [if_pos hj] at this
    exact this
  · have := key k (by omega)
    rw [if_neg (by omega)] at this
    exact this
theorem rec_G {N k : Nat} {A : Nat → Nat → Int} (hs : Sy N A) (hk : k < N) (hD : dt (k + 1) A ≠ 0) (v : Nat → Int) {j : Nat} (hj : j < k) : dt k A * Gs (k + 1) A v j = dt (k + 1) A * Gs k A v j - Gs k A (col A k) j * Ss k A k v := ((rec_Y hs hk hD v).1 j hj).symm
theorem rec_K {N k : Nat} {A : Nat → Nat → Int} (hs : Sy N A) (hk : k < N) (h0 : dt k A ≠ 0) (hD : dt (k + 1) A ≠ 0) (v : Nat → Int) : Gs (k + 1) A v k = Ss k A k v := (Int.eq_of_mul_eq_mul_left h0 (rec_Y hs hk hD v).2).symm
theorem rec_S {N k : Nat} {A : Nat → Nat → Int} (hs : Sy N A) (hk : k < N) (h0 : dt k A ≠ 0) (hD : dt (k + 1) A ≠ 0) (v : Nat → Int) (r : Nat) : dt k A * Ss (k + 1) A r v = dt (k + 1) A * Ss k A r v - Ss k A r (col A k) * Ss k A k v := by
  have e1 : dt k A * Ss (k + 1) A r v = dt k A * (dt (k + 1) A * v r) - (sm k (fun j => A r j * (dt k A * Gs (k + 1) A v j)) + A r k * (dt k A * Ss k A k v)) := by
    unfold Ss
    rw [show sm (k + 1) (fun j => A r j * Gs (k + 1) A v j) = sm k (fun j => A r j * Gs (k + 1) A v j) + A r k * Gs (k + 1) A v k from rfl, rec_K hs hk h0 hD v]
    rw [show sm k (fun j => A r j * (dt k A * Gs (k + 1) A v j)) = dt k A * sm k (fun j => A r j * Gs (k + 1) A v j) by rw [← sm_mul]; exact sm_congr (fun j _ => by grind)]
    unfold Ss
    grind
  have e2 : sm k (fun j => A r j * (dt k A * Gs (k + 1) A v j)) = dt (k + 1) A * sm k (fun j => A r j * Gs k A v j) - sm k (fun j => A r j * Gs k A (col A k) j) * Ss k A k v := by
    rw [← sm_mul, ← sm_mulr, ← sm_sub]
    apply sm_congr
    intro j hj
    rw [rec_G hs hk hD v hj]
    generalize Ss k A k v = s
    generalize Gs k A v j = g
    generalize Gs k A (col A k) j = g2
    generalize dt (k + 1) A = d
    grind
  rw [e1, e2]
  have h1 : sm k (fun j => A r j * Gs k A v j) = dt k A * v r - Ss k A r v := by unfold Ss; omega
  have h2 : sm k (fun j => A r j * Gs k A (col A k) j) = dt k A * A r k - Ss k A r (col A k) := by
    unfold Ss
    show _ = dt k A * A r k - (dt k A * A r k - _)
    omega
  rw [h1, h2]
  generalize Ss k A k v = s
  generalize Ss k A r v = s1
  generalize Ss k A r (col A k) = s2
  generalize dt (k + 1) A = d
  generalize dt k A = d0
  grind
end
section
/-! ranges of the elimination: symmetric, off the diagonal at or below 0, row sums at or above 0, diagonal at most 7, definite -/
def MM (N : Nat) (A : Nat → Nat → Int) : Prop := Sy N A ∧ (∀ r c, r < N → c < N → r ≠ c → A r c ≤ 0) ∧ (∀ r, r < N → 0 ≤ sm N (fun c => A r c)) ∧ (∀ r, r < N → A r r ≤ 7) ∧ (∀ z : Nat → Int, sm N (fun r => z r * sm N (fun j => A r j * z j)) = 0 → ∀ j, j < N → z j = 0)
theorem mbz {x z a b : Int} (hx : -a ≤ x ∧ x ≤ a) (hz : -b ≤ z ∧ z ≤ b) : -(a * b) ≤ x * z ∧ x * z ≤ a * b := by
  have h := mb (x := x) (z := z) a.toNat b.toNat (by omega) (by omega)
  rw [Int.natCast_mul, Int.toNat_of_nonneg (show 0 ≤ a by omega), Int.toNat_of_nonneg (show 0 ≤ b by omega)] at h
  exact h
theorem nn {a b : Int} (ha : a ≤ 0) (hb : b ≤ 0) : 0 ≤ a * b := by
  have := Int.mul_nonneg (show 0 ≤ -a by omega) (show 0 ≤ -b by omega)
  rwa [Int.neg_mul_neg] at this
theorem pn {a b : Int} (ha : 0 ≤ a) (hb : b ≤ 0) : a * b ≤ 0 := by
  have := Int.mul_nonneg ha (show 0 ≤ -b by omega)
  rw [Int.mul_neg] at this
  omega
theorem dv_le {d x : Int} (hd : 0 < d) (h : d * x ≤ 0) : x ≤ 0 := by
  by_cases q : x ≤ 0
  · exact q
  · have := Int.mul_pos hd (show 0 < x by omega)
    omega
theorem dv_ge {d x : Int} (hd : 0 < d) (h : 0 ≤ d * x) : 0 ≤ x := by
  by_cases q : 0 ≤ x
  · exact q
  · have := dv_le (d := d) (x := d * 0) hd
    have h2 := Int.mul_pos hd (show 0 < -x by omega)
    rw [Int.mul_neg] at h2
    omega
theorem dv_bd {d x y : Int} (hd : 0 < d) (h1 : -(d * y) ≤ d * x) (h2 : d * x ≤ d * y) : -y ≤ x ∧ x ≤ y := by
  constructor
  · have := dv_ge (d := d) (x := x + y) hd (by rw [Int.mul_add]; omega)
    omega
  · have := dv_ge (d := d) (x := y - x) hd (by rw [Int.mul_sub]; omega)
    omega
theorem sm_le_one {f : Nat → Int} {k n : Nat} (hk : k < n) (h : ∀ i, i < n → i ≠ k → f i ≤ 0) : sm n f ≤ f k := by
  have h1 := sm_le (f := f) (g := fun i => if i = k then f k else 0) (n := n) (fun i hi => by
    by_cases q : i = k
    · rw [if_pos q, q]; exact Int.le_refl _
    · rw [if_neg q]; exact h i hi q)
  rw [sm_one (k := k) hk (fun i _ q => if_neg q), if_pos rfl] at h1
  exact h1
theorem sm_le_two {f : Nat → Int} {k j n : Nat} (hk : k < n) (hj : j < n) (hkj : j ≠ k) (h : ∀ i, i < n → i ≠ k → f i ≤ 0) : sm n f ≤ f k + f j := by
  have h1 := sm_le_one (f := fun i => if i = j then 0 else f i) hk (fun i hi q => by
    by_cases q2 : i = j
    · rw [if_pos q2]; exact Int.le_refl _
    · rw [if_neg q2]; exact h i hi q)
  rw [if_neg (fun q => hkj q.symm)] at h1
  have h2 : sm n f = sm n (fun i => if i = j then 0 else f i) + sm n (fun i => if i = j then f i else 0) := by
    rw [← sm_add]
    apply sm_congr
    intro i hi
    by_cases q : i = j
    · rw [if_pos q, if_pos q]; omega
    · rw [if_neg q, if_neg q]; omega
  rw [sm_one (f := fun i => if i = j then f i else 0) (k := j) hj (fun i _ q => if_neg q), if_pos rfl] at h2
  omega
def PP (N : Nat) (A : Nat → Nat → Int) (k : Nat) : Prop := 0 < dt k A ∧ (∀ r c, k ≤ r → r < N → k ≤ c → c < N → Ss k A r (col A c) = Ss k A c (col A r)) ∧ (∀ r c, k ≤ r → r < N → k ≤ c → c < N → r ≠ c → Ss k A r (col A c) ≤ 0) ∧ (∀ r, k ≤ r → r < N → 0 ≤ sm N (fun c => if k ≤ c then Ss k A r (col A c) else 0)) ∧ (∀ r, k ≤ r → r < N → Ss k A r (col A r) ≤ 7 * dt k A)
theorem PP_zero {N : Nat} {A : Nat → Nat → Int} (h : MM N A) : PP N A 0 := by
  obtain ⟨h1, h2, h3, h4, -⟩ := h
  refine ⟨by show (0 : Int) < 1; omega, fun r c _ hr _ hc => by rw [Ss_zero, Ss_zero]; exact h1 r c hr hc, fun r c _ hr _ hc q => by rw [Ss_zero]; exact h2 r c hr hc q, fun r _ hr => ?_, fun r _ hr => by rw [Ss_zero]; show A r r ≤ 7 * 1; exact h4 r hr⟩
  rw [sm_congr (g := fun c => A r c) (fun c _ => by rw [if_pos (Nat.zero_le c), Ss_zero])]
  exact h3 r hr
theorem PP_piv {N : Nat} {A : Nat → Nat → Int} (h : MM N A) {k : Nat} (hk : k < N) (hp : PP N A k) : 0 < dt (k + 1) A := by
  obtain ⟨p0, p1, p2, p3, p4⟩ := hp
  have h1 : 0 ≤ Ss k A k (col A k) := by
    have h2 := p3 k (Nat.le_refl k) hk
    have h3 := sm_le_one (f := fun c => if k ≤ c then Ss k A k (col A c) else 0) hk (fun c hc q => by
      show (if k ≤ c then Ss k A k (col A c) else 0) ≤ 0
      by_cases q2 : k ≤ c
      · rw [if_pos q2]; exact p2 k c (Nat.le_refl k) hk q2 hc (fun z => q z.symm)
      · rw [if_neg q2]; exact Int.le_refl _)
    rw [if_pos (Nat.le_refl k)] at h3
    omega
  rw [Ss_piv] at h1
  by_cases q : dt (k + 1) A = 0
  · exfalso
    have key : ∀ r, r ≤ k → sm N (fun j => A r j * (if j < k then -Gs k A (col A k) j else if j = k then dt k A else 0)) = 0 := by
      intro r hr
      rw [sm_ext (m := k + 1) (by omega) (fun i h1 h2 => by rw [if_neg (by omega), if_neg (by omega), Int.mul_zero])]
      show sm k _ + A r k * (if k < k then _ else if k = k then dt k A else 0) = 0
      rw [if_neg (Nat.lt_irrefl k), if_pos rfl]
      have e1 : sm k (fun j => A r j * (if j < k then -Gs k A (col A k) j else if j = k then dt k A else 0)) = -sm k (fun j => A r j * Gs k A (col A k) j) := by
        rw [← sm_neg]
        apply sm_congr
        intro j hj
        rw [if_pos hj, Int.mul_neg]
      have e2 : Ss k A r (col A k) = 0 := by
        by_cases q2 : r < k
        · exact Ss_done A _ q2
        · have e : r = k := by omega
          subst e
          rw [Ss_piv]; exact q
      unfold Ss at e2
      have e3 : dt k A * col A k r = A r k * dt k A := Int.mul_comm _ _
      rw [e1]
      omega
    have hz := h.2.2.2.2 (fun j => if j < k then -Gs k A (col A k) j else if j = k then dt k A else 0) (sm_zero (fun r hr => by
      by_cases q2 : r ≤ k
      · rw [key r q2, Int.mul_zero]
      · show (if r < k then _ else if r = k then dt k A else 0) * _ = 0
        rw [if_neg (by omega), if_neg (by omega), Int.zero_mul])) k hk
    have hz2 : (if k < k then -Gs k A (col A k) k else if k = k then dt k A else 0) = 0 := hz
    rw [if_neg (Nat.lt_irrefl k), if_pos rfl] at hz2
    omega
  · omega
theorem PP_succ {N : Nat} {A : Nat → Nat → Int} (h : MM N A) {k : Nat} (hk : k < N) (hp : PP N A k) : PP N A (k + 1) := by
  have hP := PP_piv h hk hp
  obtain ⟨p0, p1, p2, p3, p4⟩ := hp
  have hrec : ∀ r c, dt k A * Ss (k + 1) A r (col A c) = dt (k + 1) A * Ss k A r (col A c) - Ss k A r (col A k) * Ss k A k (col A c) := fun r c => rec_S h.1 hk (by omega) (by omega) (col A c) r
  have hpk := Ss_piv k A
  have hoff : ∀ r, k < r → r < N → Ss k A r (col A k) ≤ 0 := fun r h1 h2 => p2 r k (by omega) h2 (Nat.le_refl k) hk (by omega)
  have hoff2 : ∀ c, k < c → c < N → Ss k A k (col A c) ≤ 0 := fun c h1 h2 => p2 k c (Nat.le_refl k) hk (by omega) h2 (by omega)
  refine ⟨hP, fun r c hr1 hr hc1 hc => ?_, fun r c hr1 hr hc1 hc q => ?_, fun r hr1 hr => ?_, fun r hr1 hr => ?_⟩
  · apply Int.eq_of_mul_eq_mul_left (show dt k A ≠ 0 by omega)
    rw [hrec r c, hrec c r, p1 r c (by omega) hr (by omega) hc, p1 r k (by omega) hr (Nat.le_refl k) hk, p1 k c (Nat.le_refl k) hk (by omega) hc, Int.mul_comm (Ss k A k (col A r))]
  · apply dv_le p0
    rw [hrec r c]
    have u1 := pn (show 0 ≤ dt (k + 1) A by omega) (p2 r c (by omega) hr (by omega) hc q)
    have u2 := nn (hoff r (by omega) hr) (hoff2 c (by omega) hc)
    omega
  · apply dv_ge p0
    have e1 : dt k A * sm N (fun c => if k + 1 ≤ c then Ss (k + 1) A r (col A c) else 0) = sm N (fun c => dt (k + 1) A * (if k ≤ c then Ss k A r (col A c) else 0) - Ss k A r (col A k) * (if k ≤ c then Ss k A k (col A c) else 0)) := by
      rw [← sm_mul]
      apply sm_congr
      intro c hc
      by_cases q1 : k + 1 ≤ c
      · rw [if_pos q1, if_pos (by omega), if_pos (by omega), hrec r c]
      · rw [if_neg q1, Int.mul_zero]
        by_cases q2 : k ≤ c
        · have e : c = k := by omega
          subst e
          rw [if_pos (Nat.le_refl c), if_pos (Nat.le_refl c), hpk, Int.mul_comm (Ss c A r (col A c))]
          omega
        · rw [if_neg q2, if_neg q2, Int.mul_zero, Int.mul_zero]; rfl
    rw [e1, sm_sub, sm_mul, sm_mul]
    have u1 := Int.mul_nonneg (show 0 ≤ dt (k + 1) A by omega) (p3 r (by omega) hr)
    have u2 := pn (p3 k (Nat.le_refl k) hk) (hoff r (by omega) hr)
    rw [Int.mul_comm] at u2
    omega
  · have e1 := hrec r r
    rw [p1 k r (Nat.le_refl k) hk (by omega) hr] at e1
    have u1 := nn (hoff r (by omega) hr) (hoff r (by omega) hr)
    have u2 := Int.mul_le_mul_of_nonneg_left (p4 r (by omega) hr) (show 0 ≤ dt (k + 1) A by omega)
    have u3 := dv_ge (x := 7 * dt (k + 1) A - Ss (k + 1) A r (col A r)) p0 (by
      rw [Int.mul_sub, e1]
      have e2 : dt k A * (7 * dt (k + 1) A) = dt (k + 1) A * (7 * dt k A) := by
        generalize dt k A = d; generalize dt (k + 1) A = d1; grind
      omega)
    omega
theorem PP_all {N : Nat} {A : Nat → Nat → Int} (h : MM N A) : ∀ k, k ≤ N → PP N A k
  | 0, _ => PP_zero h
  | k + 1, hk => PP_succ h (by omega) (PP_all h k (by omega))
theorem D_pos {N : Nat} {A : Nat → Nat → Int} (h : MM N A) {k : Nat} (hk : k ≤ N) : 0 < dt k A := (PP_all h k hk).1
theorem D_le {N : Nat} {A : Nat → Nat → Int} (h : MM N A) : ∀ k, k ≤ N → dt k A ≤ 7 ^ k
  | 0, _ => Int.le_refl _
  | k + 1, hk => by
    have h1 := D_le h k (by omega)
    have h2 := (PP_all h k (by omega)).2.2.2.2 k (Nat.le_refl k) (by omega)
    rw [Ss_piv] at h2
    rw [Int.pow_succ]
    omega
/-- off the diagonal the entries are at most the diagonal's -/
theorem S_bd {N : Nat} {A : Nat → Nat → Int} (h : MM N A) {k r c : Nat} (hkr : k ≤ r) (hr : r < N) (hkc : k ≤ c) (hc : c < N) : -Ss k A r (col A r) ≤ Ss k A r (col A c) ∧ Ss k A r (col A c) ≤ Ss k A r (col A r) := by
  obtain ⟨p0, p1, p2, p3, p4⟩ := PP_all h k (by omega)
  have hneg : ∀ i, i < N → i ≠ r → (fun c => if k ≤ c then Ss k A r (col A c) else 0) i ≤ 0 := fun i hi q => by
    show (if k ≤ i then Ss k A r (col A i) else 0) ≤ 0
    by_cases q2 : k ≤ i
    · rw [if_pos q2]; exact p2 r i hkr hr q2 hi (fun z => q z.symm)
    · rw [if_neg q2]; exact Int.le_refl _
  have h0 := p3 r hkr hr
  have h1 := sm_le_one hr hneg
  rw [if_pos hkr] at h1
  by_cases q : c = r
  · subst q; omega
  · have h2 := sm_le_two hr hc q hneg
    have h3 := p2 r c hkr hr hkc hc (fun z => q z.symm)
    rw [if_pos hkr, if_pos hkc] at h2
    omega
/-- the right side: the sum of the sizes left grows with the divisor alone -/
theorem Sb_sum {N : Nat} {A : Nat → Nat → Int} (h : MM N A) (b : Nat → Int) : ∀ k, k ≤ N → sm N (fun r => if k ≤ r then ((Ss k A r b).natAbs : Int) else 0) ≤ dt k A * sm N (fun r => ((b r).natAbs : Int))
  | 0, _ => by
    rw [sm_congr (g := fun r => ((b r).natAbs : Int)) (fun r _ => by rw [if_pos (Nat.zero_le r), Ss_zero])]
    show _ ≤ 1 * _
    omega
  | k + 1, hk => by
    have hk' : k < N := by omega
    have ih := Sb_sum h b k (by omega)
    have p0 := D_pos h (show k ≤ N by omega)
    have p1 := D_pos h hk
    have hrow : ∀ r, k < r → r < N → dt k A * ((Ss (k + 1) A r b).natAbs : Int) ≤ dt (k + 1) A * ((Ss k A r b).natAbs : Int) - Ss k A k (col A r) * ((Ss k A k b).natAbs : Int) := by
      intro r h1 h2
      have e1 := rec_S h.1 hk' (by omega) (by omega) b r
      have e2 := (PP_all h k (by omega)).2.1 k r (Nat.le_refl k) hk' (by omega) h2
      have e3 := (PP_all h k (by omega)).2.2.1 k r (Nat.le_refl k) hk' (by omega) h2 (by omega)
      have u1 : (dt k A * Ss (k + 1) A r b).natAbs = (dt k A).natAbs * (Ss (k + 1) A r b).natAbs := Int.natAbs_mul _ _
      have u2 : (dt (k + 1) A * Ss k A r b).natAbs = (dt (k + 1) A).natAbs * (Ss k A r b).natAbs := Int.natAbs_mul _ _
      have u3 : (Ss k A r (col A k) * Ss k A k b).natAbs = (Ss k A r (col A k)).natAbs * (Ss k A k b).natAbs := Int.natAbs_mul _ _
      have v1 : (((dt k A).natAbs * (Ss (k + 1) A r b).natAbs : Nat) : Int) = dt k A * ((Ss (k + 1) A r b).natAbs : Int) := by
        rw [Int.natCast_mul]; congr 1; omega
      have v2 : (((dt (k + 1) A).natAbs * (Ss k A r b).natAbs : Nat) : Int) = dt (k + 1) A * ((Ss k A r b).natAbs : Int) := by
        rw [Int.natCast_mul]; congr 1; omega
      have v3 : (((Ss k A r (col A k)).natAbs * (Ss k A k b).natAbs : Nat) : Int) = -(Ss k A k (col A r) * ((Ss k A k b).natAbs : Int)) := by
        rw [Int.natCast_mul, ← Int.neg_mul]; congr 1; omega
      rw [← v1, ← v2, ← u1, ← u2]
      rw [← u3] at v3
      omega
    have hstep : dt k A * sm N (fun r => if k + 1 ≤ r then ((Ss (k + 1) A r b).natAbs : Int) else 0) ≤ dt (k + 1) A * sm N (fun r => if k ≤ r then ((Ss k A r b).natAbs : Int) else 0) - ((Ss k A k b).natAbs : Int) * sm N (fun r => if k ≤ r then Ss k A k (col A r) else 0) := by
      rw [← sm_mul, ← sm_mul, ← sm_mul, ← sm_sub]
      apply sm_le
      intro r hr
      by_cases q : k + 1 ≤ r
      · rw [if_pos q, if_pos (by omega), if_pos (by omega), Int.mul_comm ((Ss k A k b).natAbs : Int)]
        exact hrow r (by omega) hr
      · rw [if_neg q, Int.mul_zero]
        by_cases q2 : k ≤ r
        · have e : r = k := by omega
          subst e
          rw [if_pos (Nat.le_refl r), if_pos (Nat.le_refl r), Ss_piv, Int.mul_comm ((Ss r A r b).natAbs : Int)]
          omega
        · rw [if_neg q2, if_neg q2, Int.mul_zero, Int.mul_zero]; exact Int.le_refl _
    have hrs := (PP_all h k (by omega)).2.2.2.1 k (Nat.le_refl k) hk'
    have w1 := Int.mul_nonneg (show (0 : Int) ≤ ((Ss k A k b).natAbs : Int) by omega) hrs
    have w2 := Int.mul_le_mul_of_nonneg_left ih (show 0 ≤ dt (k + 1) A by omega)
    have w3 := dv_ge (x := dt (k + 1) A * sm N (fun r => ((b r).natAbs : Int)) - sm N (fun r => if k + 1 ≤ r then ((Ss (k + 1) A r b).natAbs : Int) else 0)) p0 (by
      rw [Int.mul_sub]
      have e1 : dt k A * (dt (k + 1) A * sm N (fun r => ((b r).natAbs : Int))) = dt (k + 1) A * (dt k A * sm N (fun r => ((b r).natAbs : Int))) := by
        generalize sm N (fun r => ((b r).natAbs : Int)) = t
        generalize dt k A = d; generalize dt (k + 1) A = d1
        grind
      omega)
    omega
theorem sm_ge_one {f : Nat → Int} {n i : Nat} (h : ∀ j, j < n → 0 ≤ f j) (hi : i < n) : f i ≤ sm n f := by
  have := sm_le_one (f := fun j => -f j) hi (fun j hj _ => by have := h j hj; omega)
  rw [sm_neg] at this
  omega
theorem Sb_bd {N : Nat} {A : Nat → Nat → Int} (h : MM N A) (hN : N ≤ 7) {b : Nat → Int} (hb : ∀ r, r < N → -1400000 ≤ b r ∧ b r ≤ 1400000) {k r : Nat} (hk : k ≤ N) (hkr : k ≤ r) (hr : r < N) : -(7 ^ k * 9800000) ≤ Ss k A r b ∧ Ss k A r b ≤ 7 ^ k * 9800000 := by
  have h1 := Sb_sum h b k hk
  have h2 := sm_ge_one (f := fun r => if k ≤ r then ((Ss k A r b).natAbs : Int) else 0) (n := N) (i := r) (fun j _ => by
    show (0 : Int) ≤ if k ≤ j then ((Ss k A j b).natAbs : Int) else 0
    split <;> omega) hr
  rw [if_pos hkr] at h2
  have h3 := sm_bd (f := fun r => ((b r).natAbs : Int)) (c := 1400000) (n := N) (fun i hi => by have := hb i hi; omega)
  have h4 := D_le h k hk
  have h5 := D_pos h hk
  have h6 : sm N (fun r => ((b r).natAbs : Int)) ≤ 9800000 := by omega
  have h7 : 0 ≤ sm N (fun r => ((b r).natAbs : Int)) := sm_nonneg (fun i _ => by omega)
  have h8 := Int.mul_le_mul h4 h6 h7 (show (0 : Int) ≤ 7 ^ k by omega)
  omega
end
section
/-! the upper part of the full elimination, and all entries' ranges -/
theorem Gs_unit {N k c : Nat} {A : Nat → Nat → Int} (hs : Sy N A) (hk : k ≤ N) (hD : dt k A ≠ 0) (hc : c < k) {j : Nat} (hj : j < k) : Gs k A (col A c) j = if j = c then dt k A else 0 :=
  inj_eq hs hk hD (x := Gs k A (col A c)) (z := fun j => if j = c then dt k A else 0) (fun r hr => by
    rw [cramer A (col A c) hr, sm_one (k := c) hc (fun i _ q => by rw [if_neg q, Int.mul_zero]), if_pos rfl, Int.mul_comm]) j hj
theorem Ss_unit {N k c r : Nat} {A : Nat → Nat → Int} (hs : Sy N A) (hk : k ≤ N) (hD : dt k A ≠ 0) (hc : c < k) : Ss k A r (col A c) = 0 := by
  unfold Ss
  rw [sm_congr (g := fun j => A r j * (if j = c then dt k A else 0)) (fun j hj => by rw [Gs_unit hs hk hD hc hj]), sm_one (k := c) hc (fun i _ q => by rw [if_neg q, Int.mul_zero]), if_pos rfl]
  show dt k A * A r c - A r c * dt k A = 0
  rw [Int.mul_comm]; omega
def GP (N : Nat) (A : Nat → Nat → Int) (k : Nat) : Prop := ∀ j, j < k → (∀ c, k ≤ c → c < N → Gs k A (col A c) j ≤ 0) ∧ 0 ≤ dt k A + sm N (fun c => if k ≤ c then Gs k A (col A c) j else 0)
theorem GP_all {N : Nat} {A : Nat → Nat → Int} (h : MM N A) : ∀ k, k ≤ N → GP N A k
  | 0, _ => fun j hj => by omega
  | k + 1, hk => by
    have ih := GP_all h k (by omega)
    have hk' : k < N := by omega
    obtain ⟨p0, p1, p2, p3, p4⟩ := PP_all h k (by omega)
    have hP := D_pos h hk
    have hpk := Ss_piv k A
    have hoff2 : ∀ c, k < c → c < N → Ss k A k (col A c) ≤ 0 := fun c h1 h2 => p2 k c (Nat.le_refl k) hk' (by omega) h2 (by omega)
    intro j hj
    by_cases q : j < k
    · have hrec : ∀ c, dt k A * Gs (k + 1) A (col A c) j = dt (k + 1) A * Gs k A (col A c) j - Gs k A (col A k) j * Ss k A k (col A c) := fun c => rec_G h.1 hk' (by omega) (col A c) q
      refine ⟨fun c hc1 hc => ?_, ?_⟩
      · apply dv_le p0
        rw [hrec c]
        have u1 := pn (show 0 ≤ dt (k + 1) A by omega) ((ih j q).1 c (by omega) hc)
        have u2 := nn ((ih j q).1 k (Nat.le_refl k) hk') (hoff2 c (by omega) hc)
        omega
      · apply dv_ge p0
        have e1 : dt k A * sm N (fun c => if k + 1 ≤ c then Gs (k + 1) A (col A c) j else 0) = sm N (fun c => dt (k + 1) A * (if k ≤ c then Gs k A (col A c) j else 0) - Gs k A (col A k) j * (if k ≤ c then Ss k A k (col A c) else 0)) := by
          rw [← sm_mul]
          apply sm_congr
          intro c hc
          by_cases q1 : k + 1 ≤ c
          · rw [if_pos q1, if_pos (by omega), if_pos (by omega), hrec c]
          · rw [if_neg q1, Int.mul_zero]
            by_cases q2 : k ≤ c
            · have e : c = k := by omega
              subst e
              rw [if_pos (Nat.le_refl c), if_pos (Nat.le_refl c), hpk, Int.mul_comm (Gs c A (col A c) j)]
              omega
            · rw [if_neg q2, if_neg q2, Int.mul_zero, Int.mul_zero]; rfl
        rw [Int.mul_add, e1, sm_sub, sm_mul, sm_mul]
        have u1 := Int.mul_nonneg (show 0 ≤ dt (k + 1) A by omega) (ih j q).2
        have u2 := pn (p3 k (Nat.le_refl k) hk') ((ih j q).1 k (Nat.le_refl k) hk')
        rw [Int.mul_comm] at u2
        rw [Int.mul_add, Int.mul_comm (dt (k + 1) A) (dt k A)] at u1
        omega
    · have e : j = k := by omega
      subst e
      have hK : ∀ c, Gs (j + 1) A (col A c) j = Ss j A j (col A c) := fun c => rec_K h.1 hk' (by omega) (by omega) (col A c)
      refine ⟨fun c hc1 hc => by rw [hK]; exact hoff2 c (by omega) hc, ?_⟩
      have h3 := p3 j (Nat.le_refl j) hk'
      have e1 : sm N (fun c => if j ≤ c then Ss j A j (col A c) else 0) = sm N (fun c => if c = j then dt (j + 1) A else 0) + sm N (fun c => if j + 1 ≤ c then Gs (j + 1) A (col A c) j else 0) := by
        rw [← sm_add]
        apply sm_congr
        intro c hc
        by_cases q1 : c = j
        · subst q1
          rw [if_pos (Nat.le_refl c), if_pos rfl, if_neg (by omega), hpk]; omega
        · rw [if_neg q1]
          by_cases q2 : j + 1 ≤ c
          · rw [if_pos (by omega), if_pos q2, hK]; omega
          · rw [if_neg (by omega), if_neg q2]; rfl
      rw [e1, sm_one (f := fun c => if c = j then dt (j + 1) A else 0) (k := j) hk' (fun i _ q => if_neg q), if_pos rfl] at h3
      exact h3
theorem G_bd {N : Nat} {A : Nat → Nat → Int} (h : MM N A) {k j c : Nat} (hk : k ≤ N) (hj : j < k) (hc : c < N) : -dt k A ≤ Gs k A (col A c) j ∧ Gs k A (col A c) j ≤ dt k A := by
  have p0 := D_pos h hk
  by_cases q : c < k
  · rw [Gs_unit h.1 hk (by omega) q hj]
    split <;> omega
  · have g := GP_all h k hk j hj
    have h1 := g.1 c (by omega) hc
    have h2 := sm_le_one (f := fun c => if k ≤ c then Gs k A (col A c) j else 0) hc (fun i hi _ => by
      show (if k ≤ i then Gs k A (col A i) j else 0) ≤ 0
      by_cases q2 : k ≤ i
      · rw [if_pos q2]; exact g.1 i q2 hi
      · rw [if_neg q2]; exact Int.le_refl _)
    rw [if_pos (by omega)] at h2
    have h3 := g.2
    omega
def gB : Nat → Int
  | 0 => 0
  | k + 1 => 7 * gB k + 7 ^ k * 9800000
theorem pow_pos' (a : Int) (ha : 0 < a) : ∀ k : Nat, 0 < a ^ k
  | 0 => by rw [Int.pow_zero]; omega
  | k + 1 => by rw [Int.pow_succ]; exact Int.mul_pos (pow_pos' a ha k) ha
theorem gB_nonneg : ∀ k, 0 ≤ gB k
  | 0 => Int.le_refl _
  | k + 1 => by
    have h1 := gB_nonneg k
    have h2 := pow_pos' 7 (by omega) k
    show 0 ≤ 7 * gB k + 7 ^ k * 9800000
    omega
theorem Gb_bd {N : Nat} {A : Nat → Nat → Int} (h : MM N A) (hN : N ≤ 7) {b : Nat → Int} (hb : ∀ r, r < N → -1400000 ≤ b r ∧ b r ≤ 1400000) : ∀ k, k ≤ N → ∀ j, j < k → -gB k ≤ Gs k A b j ∧ Gs k A b j ≤ gB k
  | 0, _, j, hj => by omega
  | k + 1, hk, j, hj => by
    have hk' : k < N := by omega
    have p0 := D_pos h (show k ≤ N by omega)
    have p1 := D_pos h hk
    have s1 := Sb_bd h hN hb (show k ≤ N by omega) (Nat.le_refl k) hk'
    have g0 := gB_nonneg k
    show -(7 * gB k + 7 ^ k * 9800000) ≤ _ ∧ _ ≤ 7 * gB k + 7 ^ k * 9800000
    by_cases q : j < k
    · have e1 := rec_G h.1 hk' (by omega) b q
      have u1 := Gb_bd h hN hb k (by omega) j q
      have u2 := G_bd h (show k ≤ N by omega) q hk'
      have d7 := (PP_all h k (by omega)).2.2.2.2 k (Nat.le_refl k) hk'
      rw [Ss_piv] at d7
      have v1 := mbz (x := dt (k + 1) A) (a := 7 * dt k A) (by omega) u1
      have v2 := mbz u2 s1
      apply dv_bd p0
      · rw [e1, Int.mul_add]
        have e2 : dt k A * (7 * gB k) = 7 * dt k A * gB k := by generalize dt k A = d; grind
        omega
      · rw [e1, Int.mul_add]
        have e2 : dt k A * (7 * gB k) = 7 * dt k A * gB k := by generalize dt k A = d; grind
        omega
    · have e : j = k := by omega
      subst e
      rw [rec_K h.1 hk' (by omega) (by omega) b]
      omega
/-- the matrix behind k steps of the full elimination -/
def Rk (A : Nat → Nat → Int) (k r : Nat) (v : Nat → Int) : Int := if r < k then Gs k A v r else Ss k A r v
theorem Rk_zero (A : Nat → Nat → Int) (r : Nat) (v : Nat → Int) : Rk A 0 r v = v r := by unfold Rk; rw [if_neg (by omega), Ss_zero]
theorem Rk_piv (A : Nat → Nat → Int) (k : Nat) : Rk A k k (col A k) = dt (k + 1) A := by unfold Rk; rw [if_neg (by omega), Ss_piv]
theorem Rk_same {N k : Nat} {A : Nat → Nat → Int} (h : MM N A) (hk : k < N) (v : Nat → Int) : Rk A (k + 1) k v = Rk A k k v := by
  have p0 := D_pos h (show k ≤ N by omega)
  have p1 := D_pos h (show k + 1 ≤ N by omega)
  unfold Rk
  rw [if_pos (by omega), if_neg (by omega), rec_K h.1 hk (by omega) (by omega)]
theorem Rk_rec {N k r : Nat} {A : Nat → Nat → Int} (h : MM N A) (hk : k < N) (hr : r ≠ k) (v : Nat → Int) : dt k A * Rk A (k + 1) r v = Rk A k k (col A k) * Rk A k r v - Rk A k r (col A k) * Rk A k k v := by
  have p0 := D_pos h (show k ≤ N by omega)
  have p1 := D_pos h (show k + 1 ≤ N by omega)
  rw [Rk_piv]
  unfold Rk
  rw [if_neg (show ¬ k < k by omega)]
  by_cases q : r < k
  · rw [if_pos q, if_pos q, if_pos (show r < k + 1 by omega), rec_G h.1 hk (by omega) v q]
  · rw [if_neg q, if_neg q, if_neg (show ¬ r < k + 1 by omega), rec_S h.1 hk (by omega) (by omega) v r]
theorem p7 {k : Nat} (hk : k ≤ 6) : (7 : Int) ^ k ≤ 117649 := by
  rcases (show k = 0 ∨ k = 1 ∨ k = 2 ∨ k = 3 ∨ k = 4 ∨ k = 5 ∨ k = 6 by omega) with rfl | rfl | rfl | rfl | rfl | rfl | rfl <;> decide
theorem p7' {k : Nat} (hk : k ≤ 7) : (7 : Int) ^ k ≤ 823543 := by
  by_cases q : k = 7
  · subst q; decide
  · have := p7 (show k ≤ 6 by omega); omega
theorem g7 {k : Nat} (hk : k ≤ 7) : gB k ≤ 8070721400000 := by
  rcases (show k = 0 ∨ k = 1 ∨ k = 2 ∨ k = 3 ∨ k = 4 ∨ k = 5 ∨ k = 6 ∨ k = 7 by omega) with rfl | rfl | rfl | rfl | rfl | rfl | rfl | rfl <;> decide
/-- a column of the matrix, or the right side -/
def cv (A : Nat → Nat → Int) (b : Nat → Int) (N c : Nat) : Nat → Int := if c < N then col A c else b
theorem Rk_bd {N : Nat} {A : Nat → Nat → Int} (h : MM N A) (hN : N ≤ 7) {b : Nat → Int} (hb : ∀ r, r < N → -1400000 ≤ b r ∧ b r ≤ 1400000) {k r : Nat} (hk : k ≤ N) (hr : r < N) (c : Nat) : -8070721400000 ≤ Rk A k r (cv A b N c) ∧ Rk A k r (cv A b N c) ≤ 8070721400000 := by
  have p0 := D_pos h hk
  have p1 := D_le h k hk
  have p2 := p7' (show k ≤ 7 by omega)
  unfold Rk cv
  by_cases q : r < k
  · rw [if_pos q]
    by_cases q2 : c < N
    · rw [if_pos q2]
      have := G_bd h hk q q2
      omega
    · rw [if_neg q2]
      have u1 := Gb_bd h hN hb k hk r q
      have u2 := g7 (show k ≤ 7 by omega)
      omega
  · rw [if_neg q]
    by_cases q2 : c < N
    · rw [if_pos q2]
      by_cases q3 : c < k
      · rw [Ss_unit h.1 hk (by omega) q3]; omega
      · have u1 := S_bd h (show k ≤ r by omega) hr (show k ≤ c by omega) q2
        have u2 := (PP_all h k hk).2.2.2.2 r (by omega) hr
        omega
    · rw [if_neg q2]
      have u1 := Sb_bd h hN hb hk (show k ≤ r by omega) hr
      have u2 := p7 (show k ≤ 6 by omega)
      omega
theorem Rk_num {N : Nat} {A : Nat → Nat → Int} (h : MM N A) (hN : N ≤ 7) {b : Nat → Int} (hb : ∀ r, r < N → -1400000 ≤ b r ∧ b r ≤ 1400000) {k r : Nat} (hk : k < N) (hr : r < N) (hne : r ≠ k) (c : Nat) : i64 (Rk A k k (col A k) * Rk A k r (cv A b N c) - Rk A k r (col A k) * Rk A k k (cv A b N c)) ∧ (Rk A k k (col A k) * Rk A k r (cv A b N c) - Rk A k r (col A k) * Rk A k k (cv A b N c)).tdiv (dt k A) = Rk A (k + 1) r (cv A b N c) := by
  have p0 := D_pos h (show k ≤ N by omega)
  have p1 := D_le h k (by omega)
  have p2 := p7 (show k ≤ 6 by omega)
  rw [← Rk_rec h hk hne]
  have u1 := Rk_bd h hN hb (show k + 1 ≤ N by omega) hr c
  have u2 := mbz (x := dt k A) (a := 117649) (by omega) u1
  exact ⟨by omega, Int.mul_tdiv_cancel_left _ (by omega)⟩
end
section
/-! the net's matrix: n members, edges e p q (p < q) with numbers w p q -/
noncomputable def es (e : Nat → Nat → Prop) (p q : Nat) : Int := if p < q then cif (e p q) 1 0 else if q < p then cif (e q p) 1 0 else 0
noncomputable def ws (e : Nat → Nat → Prop) (w : Nat → Nat → Int) (p q : Nat) : Int := if p < q then cif (e p q) (w p q) 0 else if q < p then -cif (e q p) (w q p) 0 else 0
noncomputable def La (e : Nat → Nat → Prop) (n p q : Nat) : Int := if p = q then sm n (fun k => es e p k) else -es e p q
noncomputable def bb (e : Nat → Nat → Prop) (w : Nat → Nat → Int) (n p : Nat) : Int := sm n (fun k => ws e w p k)
theorem cif01 (p : Prop) : cif p 1 0 = 0 ∨ cif p 1 0 = 1 := by
  by_cases h : p
  · exact Or.inr (cif_pos h)
  · exact Or.inl (cif_neg h)
theorem es_01 (e : Nat → Nat → Prop) (p q : Nat) : 0 ≤ es e p q ∧ es e p q ≤ 1 := by
  unfold es
  split
  · rcases cif01 (e p q) with h | h <;> omega
  · split
    · rcases cif01 (e q p) with h | h <;> omega
    · omega
theorem es_self (e : Nat → Nat → Prop) (p : Nat) : es e p p = 0 := by unfold es; rw [if_neg (by omega), if_neg (by omega)]
theorem es_sym (e : Nat → Nat → Prop) (p q : Nat) : es e p q = es e q p := by
  unfold es
  by_cases h1 : p < q
  · rw [if_pos h1, if_neg (by omega), if_pos h1]
  · by_cases h2 : q < p
    · rw [if_neg h1, if_pos h2, if_pos h2]
    · rw [if_neg h1, if_neg h2, if_neg h2, if_neg h1]
theorem ws_anti (e : Nat → Nat → Prop) (w : Nat → Nat → Int) (p q : Nat) : ws e w p q = -ws e w q p := by
  unfold ws
  by_cases h1 : p < q
  · rw [if_pos h1, if_neg (by omega), if_pos h1, Int.neg_neg]
  · by_cases h2 : q < p
    · rw [if_neg h1, if_pos h2, if_pos h2]
    · rw [if_neg h1, if_neg h2, if_neg h2, if_neg h1]; rfl
theorem La_sym (e : Nat → Nat → Prop) (n p q : Nat) : La e n p q = La e n q p := by
  unfold La
  by_cases h : p = q
  · rw [if_pos h, if_pos h.symm, h]
  · rw [if_neg h, if_neg (fun z => h z.symm), es_sym]
/-- a row of the matrix at x: the sum over all q of e p q (x p - x q) -/
theorem La_row (e : Nat → Nat → Prop) (n : Nat) {p : Nat} (hp : p < n) (x : Nat → Int) : sm n (fun q => La e n p q * x q) = sm n (fun q => es e p q * (x p - x q)) := by
  have e1 : sm n (fun q => La e n p q * x q) = sm n (fun q => if q = p then sm n (fun k => es e p k) * x p else 0) - sm n (fun q => es e p q * x q) := by
    rw [← sm_sub]
    apply sm_congr
    intro q hq
    unfold La
    by_cases h : p = q
    · subst h
      rw [if_pos rfl, if_pos rfl, es_self]; omega
    · rw [if_neg h, if_neg (fun z => h z.symm), Int.neg_mul]; omega
  rw [e1, sm_one (f := fun q => if q = p then sm n (fun k => es e p k) * x p else 0) (k := p) hp (fun i _ q => if_neg q), if_pos rfl, ← sm_mulr, ← sm_sub]
  exact sm_congr (fun q _ => (Int.mul_sub _ _ _).symm)
/-- twice the form: squares over all ordered pairs -/
theorem La_form (e : Nat → Nat → Prop) (n : Nat) (x : Nat → Int) : 2 * sm n (fun p => x p * sm n (fun q => La e n p q * x q)) = sm n (fun p => sm n (fun q => es e p q * ((x p - x q) * (x p - x q)))) := by
  have e1 : sm n (fun p => x p * sm n (fun q => La e n p q * x q)) = sm n (fun p => sm n (fun q => x p * (es e p q * (x p - x q)))) := by
    apply sm_congr
    intro p hp
    rw [La_row e n hp x, ← sm_mul]
  have e2 : sm n (fun p => sm n (fun q => x p * (es e p q * (x p - x q)))) = sm n (fun p => sm n (fun q => x q * (es e p q * (x q - x p)))) := by
    rw [sm_comm]
    apply sm_congr
    intro p hp
    apply sm_congr
    intro q hq
    rw [es_sym e q p]
  have e3 : sm n (fun p => sm n (fun q => es e p q * ((x p - x q) * (x p - x q)))) = sm n (fun p => sm n (fun q => x p * (es e p q * (x p - x q)))) + sm n (fun p => sm n (fun q => x q * (es e p q * (x q - x p)))) := by
    rw [← sm_add]
    apply sm_congr
    intro p hp
    rw [← sm_add]
    apply sm_congr
    intro q hq
    generalize es e p q = s
    generalize x p = a
    generalize x q = b
    grind
  rw [e1, e3, ← e2]
  omega
theorem sm_each {f : Nat → Int} : ∀ {n : Nat}, (∀ i, i < n → 0 ≤ f i) → sm n f = 0 → ∀ i, i < n → f i = 0
  | 0, _, _, i, hi => by omega
  | n + 1, h, hz, i, hi => by
    have h1 := sm_nonneg (f := f) (n := n) (fun i hi => h i (by omega))
    have h2 := h n (by omega)
    have h3 : sm n f + f n = 0 := hz
    by_cases q : i = n
    · subst q; omega
    · exact sm_each (n := n) (fun i hi => h i (by omega)) (by omega) i (by omega)
theorem sq_nonneg (a : Int) : 0 ≤ a * a := by
  rcases Int.le_total 0 a with h | h
  · exact Int.mul_nonneg h h
  · exact nn h h
theorem form_nonneg (e : Nat → Nat → Prop) (n : Nat) (x : Nat → Int) : 0 ≤ sm n (fun p => x p * sm n (fun q => La e n p q * x q)) := by
  have h1 := La_form e n x
  have h2 : 0 ≤ sm n (fun p => sm n (fun q => es e p q * ((x p - x q) * (x p - x q)))) := sm_nonneg (fun p _ => sm_nonneg (fun q _ => Int.mul_nonneg (es_01 e p q).1 (sq_nonneg _)))
  omega
/-- the net hangs together: what is alike along edges is alike everywhere -/
def Cn (e : Nat → Nat → Prop) (n : Nat) : Prop := ∀ f : Nat → Nat, EInv e n f → ∀ p q, p < n → q < n → f p = f q
theorem form_zero {e : Nat → Nat → Prop} {n : Nat} (hc : Cn e n) {x : Nat → Int} (h : sm n (fun p => x p * sm n (fun q => La e n p q * x q)) = 0) : ∀ p q, p < n → q < n → x p = x q := by
  have h1 := La_form e n x
  rw [h] at h1
  have hedge : ∀ a b, a < b → b < n → e a b → x a = x b := by
    intro a b hab hb he
    have h2 := sm_each (f := fun p => sm n (fun q => es e p q * ((x p - x q) * (x p - x q)))) (n := n) (fun p _ => sm_nonneg (fun q _ => Int.mul_nonneg (es_01 e p q).1 (sq_nonneg _))) (by omega) a (by omega)
    have h3 := sm_each (f := fun q => es e a q * ((x a - x q) * (x a - x q))) (n := n) (fun q _ => Int.mul_nonneg (es_01 e a q).1 (sq_nonneg _)) h2 b hb
    have h4 : es e a b = 1 := by unfold es; rw [if_pos hab, cif_pos he]
    have h5 : es e a b * ((x a - x b) * (x a - x b)) = 0 := h3
    rw [h4, Int.one_mul] at h5
    rcases Int.mul_eq_zero.mp h5 with q | q <;> omega
  intro p q hp hq
  have h6 := hc (fun i => if x i = x q then 1 else 0) (fun a b hab hb he => by
    show (if x a = x q then 1 else 0) = (if x b = x q then 1 else 0)
    rw [hedge a b hab hb he]) p q hp hq
  have h7 : (if x p = x q then 1 else 0) = (if x q = x q then 1 else 0) := h6
  rw [if_pos rfl] at h7
  by_cases z : x p = x q
  · exact z
  · rw [if_neg z] at h7; omega
/-- all row sums are 0, all right sides add to 0 -/
theorem La_sum (e : Nat → Nat → Prop) (n : Nat) {p : Nat} (hp : p < n) : sm n (fun q => La e n p q) = 0 := by
  have h := La_row e n hp (fun _ => 1)
  rw [show sm n (fun q => La e n p q * 1) = sm n (fun q => La e n p q) from sm_congr (fun q _ => Int.mul_one _)] at h
  rw [h]
  exact sm_zero (fun q _ => by show es e p q * (1 - 1) = 0; rw [Int.sub_self, Int.mul_zero])
theorem bb_sum (e : Nat → Nat → Prop) (w : Nat → Nat → Int) (n : Nat) : sm n (fun p => bb e w n p) = 0 := by
  have h3 : sm n (fun p => sm n (fun k => ws e w p k)) = sm n (fun p => sm n (fun k => -ws e w p k)) := (sm_comm (fun p k => ws e w p k) n n).trans (sm_congr (fun k _ => sm_congr (fun p _ => ws_anti e w p k)))
  have h4 : sm n (fun p => sm n (fun k => -ws e w p k)) = -sm n (fun p => sm n (fun k => ws e w p k)) := by
    rw [← sm_neg]
    exact sm_congr (fun p _ => sm_neg _ n)
  show sm n (fun p => sm n (fun k => ws e w p k)) = 0
  omega
theorem bb_bd {e : Nat → Nat → Prop} {w : Nat → Nat → Int} {n : Nat} (hn : n ≤ 8) (hw : ∀ a b, a < b → b < n → e a b → -200000 ≤ w a b ∧ w a b ≤ 200000) {p : Nat} (hp : p < n) : -1400000 ≤ bb e w n p ∧ bb e w n p ≤ 1400000 := by
  have hk : ∀ k, k < n → -200000 ≤ ws e w p k ∧ ws e w p k ≤ 200000 := by
    intro k hk
    unfold ws
    by_cases h1 : p < k
    · rw [if_pos h1]
      by_cases q : e p k
      · rw [cif_pos q]; exact hw p k h1 hk q
      · rw [cif_neg q]; omega
    · rw [if_neg h1]
      by_cases h2 : k < p
      · rw [if_pos h2]
        by_cases q : e k p
        · rw [cif_pos q]; have := hw k p h2 hp q; omega
        · rw [cif_neg q]; omega
      · rw [if_neg h2]; omega
  have h0 : ws e w p p = 0 := by unfold ws; rw [if_neg (by omega), if_neg (by omega)]
  have h1 : sm n (fun k => ws e w p k) = sm (n - 1) (fun k => ws e w p (sk p k)) := by
    obtain ⟨m, rfl⟩ : ∃ m, n = m + 1 := ⟨n - 1, by omega⟩
    rw [show m + 1 - 1 = m by omega, sm_skip (fun k => ws e w p k) (show p ≤ m by omega)]
    apply sm_congr
    intro k hk
    by_cases q : k = p
    · rw [if_pos q, q, h0]
    · rw [if_neg q]
  have h2 := sm_bd (f := fun k => ws e w p (sk p k)) (c := 200000) (n := n - 1) (fun k hk2 => hk _ (by have := sk_le (show p ≤ n - 1 by omega) hk2; omega))
  unfold bb
  rw [h1]
  omega
/-- the matrix without its row and column g, where g is the last (o = 0) or the first (o = 1) -/
theorem La_MM {e : Nat → Nat → Prop} {n o : Nat} (hc : Cn e (n + 1)) (hn : n ≤ 7) (ho : o ≤ 1) : MM n (fun r c => La e (n + 1) (r + o) (c + o)) := by
  -- the ground
  have hsplit : ∀ f : Nat → Int, sm (n + 1) f = sm n (fun i => f (i + o)) + f (if o = 0 then n else 0) := by
    intro f
    rcases (show o = 0 ∨ o = 1 by omega) with rfl | rfl
    · rw [if_pos rfl]; rfl
    · rw [if_neg (by omega), sm_head]; omega
  have hg : ∀ r, r < n → r + o ≠ (if o = 0 then n else 0) := by
    intro r hr
    rcases (show o = 0 ∨ o = 1 by omega) with rfl | rfl
    · rw [if_pos rfl]; omega
    · rw [if_neg (by omega)]; omega
  have hgn : (if o = 0 then n else 0) < n + 1 := by split <;> omega
  refine ⟨fun r c _ _ => La_sym e (n + 1) _ _, fun r c hr hc q => ?_, fun r hr => ?_, fun r hr => ?_, fun z hz => ?_⟩
  · show La e (n + 1) (r + o) (c + o) ≤ 0
    unfold La
    rw [if_neg (by omega)]
    have := es_01 e (r + o) (c + o)
    omega
  · have h1 := La_sum e (n + 1) (show r + o < n + 1 by omega)
    rw [hsplit] at h1
    have h2 : La e (n + 1) (r + o) (if o = 0 then n else 0) ≤ 0 := by
      unfold La
      rw [if_neg (hg r hr)]
      have := es_01 e (r + o) (if o = 0 then n else 0)
      omega
    show 0 ≤ sm n (fun c => La e (n + 1) (r + o) (c + o))
    omega
  · show La e (n + 1) (r + o) (r + o) ≤ 7
    unfold La
    rw [if_pos rfl]
    have h1 : sm (n + 1) (fun k => es e (r + o) k) = sm n (fun k => es e (r + o) (sk (r + o) k)) := by
      rw [sm_skip (fun k => es e (r + o) k) (show r + o ≤ n by omega)]
      apply sm_congr
      intro k hk
      by_cases q : k = r + o
      · rw [if_pos q, q, es_self]
      · rw [if_neg q]
    have h2 := sm_bd (f := fun k => es e (r + o) (sk (r + o) k)) (c := 1) (n := n) (fun k _ => by have := es_01 e (r + o) (sk (r + o) k); omega)
    rw [h1]
    omega
  · -- a vector on the rest, with 0 at the ground
    have hx : ∀ j, j < n → (fun i => if i = (if o = 0 then n else 0) then 0 else z (i - o)) (j + o) = z j := by
      intro j hj
      show (if j + o = _ then 0 else z (j + o - o)) = z j
      rw [if_neg (hg j hj), Nat.add_sub_cancel]
    have hx0 : (fun i => if i = (if o = 0 then n else 0) then 0 else z (i - o)) (if o = 0 then n else 0) = 0 := if_pos rfl
    have h1 : sm (n + 1) (fun p => (fun i => if i = (if o = 0 then n else 0) then 0 else z (i - o)) p * sm (n + 1) (fun q => La e (n + 1) p q * (fun i => if i = (if o = 0 then n else 0) then 0 else z (i - o)) q)) = 0 := by
      rw [hsplit, hx0, Int.zero_mul, Int.add_zero]
      rw [sm_congr (g := fun r => z r * sm n (fun j => La e (n + 1) (r + o) (j + o) * z j)) (fun r hr => by
        rw [hx r hr, hsplit, hx0, Int.mul_zero, Int.add_zero]
        rw [sm_congr (fun j hj => by rw [hx j hj])])]
      exact hz
    intro j hj
    have h2 := form_zero hc h1 (j + o) (if o = 0 then n else 0) (by omega) hgn
    exact (hx j hj).symm.trans (h2.trans hx0)
end
section
/-! solutions, and that two of them tell the same -/
/-- the ground: the last member (o = 0) or the first (o = 1) -/
def gr (n o : Nat) : Nat := if o = 0 then n else 0
noncomputable def Ao (e : Nat → Nat → Prop) (n o : Nat) : Nat → Nat → Int := fun r c => La e (n + 1) (r + o) (c + o)
noncomputable def bo (e : Nat → Nat → Prop) (w : Nat → Nat → Int) (n o : Nat) : Nat → Int := fun r => bb e w (n + 1) (r + o)
noncomputable def Do (e : Nat → Nat → Prop) (n o : Nat) : Int := dt n (Ao e n o)
noncomputable def Xo (e : Nat → Nat → Prop) (w : Nat → Nat → Int) (n o : Nat) : Nat → Int := fun i => if i = gr n o then 0 else Gs n (Ao e n o) (bo e w n o) (i - o)
theorem gr_split (n o : Nat) (ho : o ≤ 1) (f : Nat → Int) : sm (n + 1) f = sm n (fun i => f (i + o)) + f (gr n o) := by
  unfold gr
  rcases (show o = 0 ∨ o = 1 by omega) with rfl | rfl
  · rw [if_pos rfl]; rfl
  · rw [if_neg (by omega), sm_head]; omega
theorem gr_ne {n o r : Nat} (ho : o ≤ 1) (hr : r < n) : r + o ≠ gr n o := by
  unfold gr
  rcases (show o = 0 ∨ o = 1 by omega) with rfl | rfl
  · rw [if_pos rfl]; omega
  · rw [if_neg (by omega)]; omega
theorem gr_lt (n o : Nat) : gr n o < n + 1 := by unfold gr; split <;> omega
theorem gr_cases {n o p : Nat} (ho : o ≤ 1) (hp : p < n + 1) : p = gr n o ∨ ∃ r, r < n ∧ p = r + o := by
  unfold gr
  rcases (show o = 0 ∨ o = 1 by omega) with rfl | rfl
  · rw [if_pos rfl]
    by_cases q : p = n
    · exact Or.inl q
    · exact Or.inr ⟨p, by omega, by omega⟩
  · rw [if_neg (by omega)]
    by_cases q : p = 0
    · exact Or.inl q
    · exact Or.inr ⟨p - 1, by omega, by omega⟩
theorem Xo_at {e : Nat → Nat → Prop} {w : Nat → Nat → Int} {n o r : Nat} (ho : o ≤ 1) (hr : r < n) : Xo e w n o (r + o) = Gs n (Ao e n o) (bo e w n o) r := by
  unfold Xo
  rw [if_neg (gr_ne ho hr), Nat.add_sub_cancel]
theorem Xo_gr (e : Nat → Nat → Prop) (w : Nat → Nat → Int) (n o : Nat) : Xo e w n o (gr n o) = 0 := by unfold Xo; rw [if_pos rfl]
/-- x solves the net's system over D -/
def Sol (e : Nat → Nat → Prop) (w : Nat → Nat → Int) (n : Nat) (D : Int) (x : Nat → Int) : Prop := ∀ p, p < n + 1 → sm (n + 1) (fun q => La e (n + 1) p q * x q) = D * bb e w (n + 1) p
theorem Xo_sol (e : Nat → Nat → Prop) (w : Nat → Nat → Int) {n o : Nat} (ho : o ≤ 1) : Sol e w n (Do e n o) (Xo e w n o) := by
  have hrow : ∀ r, r < n → sm (n + 1) (fun q => La e (n + 1) (r + o) q * Xo e w n o q) = Do e n o * bb e w (n + 1) (r + o) := by
    intro r hr
    rw [gr_split n o ho, Xo_gr, Int.mul_zero, Int.add_zero]
    rw [sm_congr (g := fun j => Ao e n o r j * Gs n (Ao e n o) (bo e w n o) j) (fun j hj => by rw [Xo_at ho hj]; rfl)]
    exact cramer (Ao e n o) (bo e w n o) hr
  intro p hp
  rcases gr_cases ho hp with rfl | ⟨r, hr, rfl⟩
  · have h1 : sm (n + 1) (fun p => sm (n + 1) (fun q => La e (n + 1) p q * Xo e w n o q)) = 0 := by
      rw [sm_comm]
      apply sm_zero
      intro q hq
      rw [sm_mulr, sm_congr (g := fun p => La e (n + 1) q p) (fun p _ => La_sym e (n + 1) p q), La_sum e (n + 1) hq, Int.zero_mul]
    have h2 := bb_sum e w (n + 1)
    rw [gr_split n o ho] at h1 h2
    rw [sm_congr (g := fun r => Do e n o * bb e w (n + 1) (r + o)) (fun r hr => hrow r hr), sm_mul] at h1
    have h3 : sm n (fun r => bb e w (n + 1) (r + o)) = -bb e w (n + 1) (gr n o) := by omega
    rw [h3, Int.mul_neg] at h1
    omega
  · exact hrow r hr
theorem sol_diff {e : Nat → Nat → Prop} {w : Nat → Nat → Int} {n : Nat} (hc : Cn e (n + 1)) {D D' : Int} {x x' : Nat → Int} (h : Sol e w n D x) (h' : Sol e w n D' x') {p q : Nat} (hp : p < n + 1) (hq : q < n + 1) : D' * (x p - x q) = D * (x' p - x' q) := by
  have hz : ∀ r, r < n + 1 → sm (n + 1) (fun j => La e (n + 1) r j * (D' * x j - D * x' j)) = 0 := by
    intro r hr
    have e1 : sm (n + 1) (fun j => La e (n + 1) r j * (D' * x j - D * x' j)) = D' * sm (n + 1) (fun j => La e (n + 1) r j * x j) - D * sm (n + 1) (fun j => La e (n + 1) r j * x' j) := by
      rw [← sm_mul, ← sm_mul, ← sm_sub]
      exact sm_congr (fun j _ => by grind)
    rw [e1, h r hr, h' r hr]
    grind
  have h1 := form_zero hc (x := fun j => D' * x j - D * x' j) (sm_zero (fun r hr => by rw [hz r hr, Int.mul_zero])) p q hp hq
  have h2 : D' * x p - D * x' p = D' * x q - D * x' q := h1
  rw [Int.mul_sub, Int.mul_sub]
  omega
/-- what closes, and the squares -/
noncomputable def clS (e : Nat → Nat → Prop) (w : Nat → Nat → Int) (n : Nat) (x : Nat → Int) : Int := sm n (fun p => sm n (fun q => if p < q then cif (e p q) (w p q * (x p - x q)) 0 else 0))
noncomputable def sqS (e : Nat → Nat → Prop) (w : Nat → Nat → Int) (n : Nat) : Int := sm n (fun p => sm n (fun q => if p < q then cif (e p q) (w p q * w p q) 0 else 0))
theorem clS_bb (e : Nat → Nat → Prop) (w : Nat → Nat → Int) (n : Nat) (x : Nat → Int) : clS e w n x = sm n (fun p => x p * bb e w n p) := by
  have e1 : sm n (fun p => x p * bb e w n p) = sm n (fun p => sm n (fun q => if p < q then cif (e p q) (w p q * x p) 0 else 0)) + sm n (fun p => sm n (fun q => if q < p then cif (e q p) (-(w q p * x p)) 0 else 0)) := by
    rw [← sm_add]
    apply sm_congr
    intro p hp
    unfold bb
    rw [← sm_mul, ← sm_add]
    apply sm_congr
    intro q hq
    unfold ws
    by_cases h1 : p < q
    · rw [if_pos h1, if_pos h1, if_neg (by omega)]
      by_cases h : e p q
      · rw [cif_pos h, cif_pos h, Int.mul_comm]; omega
      · rw [cif_neg h, cif_neg h, Int.mul_zero]; rfl
    · rw [if_neg h1, if_neg h1]
      by_cases h2 : q < p
      · rw [if_pos h2, if_pos h2]
        by_cases h : e q p
        · rw [cif_pos h, cif_pos h, Int.mul_neg, Int.mul_comm]; omega
        · rw [cif_neg h, cif_neg h]; simp
      · rw [if_neg h2, if_neg h2, Int.mul_zero]; rfl
  rw [e1, sm_comm (fun p q => if q < p then cif (e q p) (-(w q p * x p)) 0 else 0), ← sm_add]
  unfold clS
  apply sm_congr
  intro p hp
  rw [← sm_add]
  apply sm_congr
  intro q hq
  by_cases h1 : p < q
  · rw [if_pos h1, if_pos h1, if_pos h1]
    by_cases h : e p q
    · rw [cif_pos h, cif_pos h, cif_pos h, Int.mul_sub]; omega
    · rw [cif_neg h, cif_neg h, cif_neg h]; rfl
  · rw [if_neg h1, if_neg h1, if_neg h1]; rfl
theorem sm_sympairs (F : Nat → Nat → Int) (hs : ∀ p q, F p q = F q p) (h0 : ∀ p, F p p = 0) (n : Nat) : sm n (fun p => sm n (fun q => F p q)) = 2 * sm n (fun p => sm n (fun q => if p < q then F p q else 0)) := by
  have e1 : sm n (fun p => sm n (fun q => F p q)) = sm n (fun p => sm n (fun q => if p < q then F p q else 0)) + sm n (fun p => sm n (fun q => if q < p then F p q else 0)) := by
    rw [← sm_add]
    apply sm_congr
    intro p hp
    rw [← sm_add]
    apply sm_congr
    intro q hq
    by_cases h1 : p < q
    · rw [if_pos h1, if_neg (by omega)]; omega
    · by_cases h2 : q < p
      · rw [if_neg h1, if_pos h2]; omega
      · have e : p = q := by omega
        subst e
        rw [if_neg h1, h0]; rfl
  have e2 : sm n (fun p => sm n (fun q => if q < p then F p q else 0)) = sm n (fun p => sm n (fun q => if p < q then F p q else 0)) := by
    rw [sm_comm]
    exact sm_congr (fun p _ => sm_congr (fun q _ => by rw [hs q p]))
  rw [e1, e2]
  omega
theorem clS_bd {e : Nat → Nat → Prop} {w : Nat → Nat → Int} {n : Nat} {D : Int} {x : Nat → Int} (hD : 0 < D) (h : Sol e w n D x) : 0 ≤ clS e w (n + 1) x ∧ clS e w (n + 1) x ≤ D * sqS e w (n + 1) := by
  have hf : sm (n + 1) (fun p => x p * sm (n + 1) (fun q => La e (n + 1) p q * x q)) = D * clS e w (n + 1) x := by
    rw [clS_bb, ← sm_mul]
    apply sm_congr
    intro p hp
    rw [h p hp]
    grind
  have h1 := form_nonneg e (n + 1) x
  rw [hf] at h1
  refine ⟨dv_ge hD h1, ?_⟩
  have hq : sm (n + 1) (fun p => sm (n + 1) (fun q => if p < q then es e p q * ((x p - x q) * (x p - x q)) else 0)) = D * clS e w (n + 1) x := by
    have h2 := La_form e (n + 1) x
    rw [hf, sm_sympairs (fun p q => es e p q * ((x p - x q) * (x p - x q))) (fun p q => by show es e p q * ((x p - x q) * (x p - x q)) = es e q p * ((x q - x p) * (x q - x p)); rw [es_sym e q p]; generalize x p = a; generalize x q = b; generalize es e p q = s; grind) (fun p => by show es e p p * _ = 0; rw [es_self, Int.zero_mul])] at h2
    omega
  have h3 : 0 ≤ sm (n + 1) (fun p => sm (n + 1) (fun q => if p < q then cif (e p q) ((D * w p q - (x p - x q)) * (D * w p q - (x p - x q))) 0 else 0)) := by
    apply sm_nonneg
    intro p _
    apply sm_nonneg
    intro q _
    by_cases q1 : p < q
    · rw [if_pos q1]
      by_cases q2 : e p q
      · rw [cif_pos q2]; exact sq_nonneg _
      · rw [cif_neg q2]; exact Int.le_refl _
    · rw [if_neg q1]; exact Int.le_refl _
  have h4 : sm (n + 1) (fun p => sm (n + 1) (fun q => if p < q then cif (e p q) ((D * w p q - (x p - x q)) * (D * w p q - (x p - x q))) 0 else 0)) = D * D * sqS e w (n + 1) - 2 * D * clS e w (n + 1) x + sm (n + 1) (fun p => sm (n + 1) (fun q => if p < q then es e p q * ((x p - x q) * (x p - x q)) else 0)) := by
    unfold sqS clS
    rw [← sm_mul, ← sm_mul, ← sm_sub, ← sm_add]
    apply sm_congr
    intro p _
    rw [← sm_mul, ← sm_mul, ← sm_sub, ← sm_add]
    apply sm_congr
    intro q _
    by_cases q1 : p < q
    · rw [if_pos q1, if_pos q1, if_pos q1, if_pos q1]
      unfold es
      rw [if_pos q1]
      by_cases q2 : e p q
      · rw [cif_pos q2, cif_pos q2, cif_pos q2, cif_pos q2]
        generalize w p q = a; generalize x p = b; generalize x q = c
        grind
      · rw [cif_neg q2, cif_neg q2, cif_neg q2, cif_neg q2]; simp
    · rw [if_neg q1, if_neg q1, if_neg q1, if_neg q1]; simp
  rw [h4, hq] at h3
  have h5 := dv_ge (x := D * sqS e w (n + 1) - clS e w (n + 1) x) hD (by
    rw [Int.mul_sub, ← Int.mul_assoc]
    have e5 : 2 * D * clS e w (n + 1) x = D * clS e w (n + 1) x + D * clS e w (n + 1) x := by grind
    omega)
  omega
theorem clS_scale {e : Nat → Nat → Prop} {w : Nat → Nat → Int} {n : Nat} (hc : Cn e (n + 1)) {D D' : Int} {x x' : Nat → Int} (h : Sol e w n D x) (h' : Sol e w n D' x') : D' * clS e w (n + 1) x = D * clS e w (n + 1) x' := by
  unfold clS
  rw [← sm_mul, ← sm_mul]
  apply sm_congr
  intro p hp
  rw [← sm_mul, ← sm_mul]
  apply sm_congr
  intro q hq
  by_cases q1 : p < q
  · rw [if_pos q1, if_pos q1]
    by_cases q2 : e p q
    · rw [cif_pos q2, cif_pos q2]
      have := sol_diff hc h h' hp hq
      grind
    · rw [cif_neg q2, cif_neg q2]; simp
  · rw [if_neg q1, if_neg q1]; simp
/-- what a member is off by, over (n + 1) D -/
def offA (n : Nat) (x : Nat → Int) (m : Nat) : Int := ((n + 1 : Nat) : Int) * x m - sm (n + 1) x
theorem sm_const (c : Int) : ∀ n : Nat, sm n (fun _ => c) = n * c
  | 0 => by simp [sm]
  | n + 1 => by
    show sm n _ + c = ((n + 1 : Nat) : Int) * c
    rw [sm_const c n, Int.natCast_succ, Int.add_mul, Int.one_mul]
theorem off_scale {e : Nat → Nat → Prop} {w : Nat → Nat → Int} {n : Nat} (hc : Cn e (n + 1)) {D D' : Int} {x x' : Nat → Int} (h : Sol e w n D x) (h' : Sol e w n D' x') {m : Nat} (hm : m < n + 1) : D' * offA n x m = D * offA n x' m := by
  have e1 : ∀ y : Nat → Int, offA n y m = sm (n + 1) (fun k => y m - y k) := by
    intro y
    unfold offA
    rw [sm_sub, sm_const]
  rw [e1, e1, ← sm_mul, ← sm_mul]
  exact sm_congr (fun k hk => sol_diff hc h h' hm hk)
theorem frac_eq {a d a' d' : Int} (hd : 0 < d) (hd' : 0 < d') (h : a * d' = a' * d) : a.tdiv (Int.gcd a d : Int) = a'.tdiv (Int.gcd a' d' : Int) ∧ d.tdiv (Int.gcd a d : Int) = d'.tdiv (Int.gcd a' d' : Int) := by
  have hg : 0 < Int.gcd a d := Int.gcd_pos_of_ne_zero_right a (by omega)
  have hg' : 0 < Int.gcd a' d' := Int.gcd_pos_of_ne_zero_right a' (by omega)
  have c1 := Int.gcd_ediv_gcd_ediv_gcd hg
  have c2 := Int.gcd_ediv_gcd_ediv_gcd hg'
  have ea : a / (Int.gcd a d : Int) * (Int.gcd a d : Int) = a := Int.ediv_mul_cancel (Int.gcd_dvd_left a d)
  have ed : d / (Int.gcd a d : Int) * (Int.gcd a d : Int) = d := Int.ediv_mul_cancel (Int.gcd_dvd_right a d)
  have ea' : a' / (Int.gcd a' d' : Int) * (Int.gcd a' d' : Int) = a' := Int.ediv_mul_cancel (Int.gcd_dvd_left a' d')
  have ed' : d' / (Int.gcd a' d' : Int) * (Int.gcd a' d' : Int) = d' := Int.ediv_mul_cancel (Int.gcd_dvd_right a' d')
  rw [Int.tdiv_eq_ediv_of_dvd (Int.gcd_dvd_left a d), Int.tdiv_eq_ediv_of_dvd (Int.gcd_dvd_right a d), Int.tdiv_eq_ediv_of_dvd (Int.gcd_dvd_left a' d'), Int.tdiv_eq_ediv_of_dvd (Int.gcd_dvd_right a' d')]
  generalize Int.gcd a d = g at *
  generalize Int.gcd a' d' = g' at *
  generalize a / (g : Int) = al at *
  generalize d / (g : Int) = de at *
  generalize a' / (g' : Int) = al' at *
  generalize d' / (g' : Int) = de' at *
  have hgi : (0 : Int) < g := by omega
  have hgi' : (0 : Int) < g' := by omega
  have pde : 0 < de := by
    by_cases q : 0 < de
    · exact q
    · have := pn (show (0 : Int) ≤ g by omega) (show de ≤ 0 by omega)
      rw [Int.mul_comm] at this
      omega
  have pde' : 0 < de' := by
    by_cases q : 0 < de'
    · exact q
    · have := pn (show (0 : Int) ≤ g' by omega) (show de' ≤ 0 by omega)
      rw [Int.mul_comm] at this
      omega
  have hx : al * de' = al' * de := by
    have h1 : (g * g' : Int) * (al * de') = (g * g' : Int) * (al' * de) := by
      rw [← ea, ← ed, ← ea', ← ed'] at h
      grind
    exact Int.eq_of_mul_eq_mul_left (by have := Int.mul_pos hgi hgi'; omega) h1
  have hn : al.natAbs * de'.natAbs = al'.natAbs * de.natAbs := by rw [← Int.natAbs_mul, ← Int.natAbs_mul, hx]
  have k1 : Nat.Coprime de.natAbs al.natAbs := by rw [Nat.coprime_comm]; exact c1
  have k2 : Nat.Coprime de'.natAbs al'.natAbs := by rw [Nat.coprime_comm]; exact c2
  have d1 : de.natAbs ∣ de'.natAbs := Nat.Coprime.dvd_of_dvd_mul_left k1 (by rw [hn]; exact Nat.dvd_mul_left _ _)
  have d2 : de'.natAbs ∣ de.natAbs := Nat.Coprime.dvd_of_dvd_mul_left k2 (by rw [← hn]; exact Nat.dvd_mul_left _ _)
  have d3 := Nat.dvd_antisymm d1 d2
  have d4 : de = de' := by omega
  subst d4
  exact ⟨Int.eq_of_mul_eq_mul_right (show de ≠ 0 by omega) hx, rfl⟩
end
section
/-! the members of a net, rising -/
def ml (c : Nat → Nat) (g T : Nat) : List Nat := (List.range T).filter (fun t => decide (c t = g))
def me (c : Nat → Nat) (g T : Nat) (i : Nat) : Nat := (ml c g T).getD i 0
theorem ml_in {c : Nat → Nat} {g T t : Nat} : t ∈ ml c g T ↔ t < T ∧ c t = g := by
  unfold ml
  rw [List.mem_filter, List.mem_range, decide_eq_true_eq]
theorem ml_succ (c : Nat → Nat) (g T : Nat) : ml c g (T + 1) = ml c g T ++ (if c T = g then [T] else []) := by
  unfold ml
  rw [List.range_succ, List.filter_append]
  congr 1
  by_cases h : c T = g
  · rw [if_pos h]; simp [h]
  · rw [if_neg h]; simp [h]
theorem ml_len (c : Nat → Nat) (g : Nat) : ∀ T, (ml c g T).length ≤ T
  | 0 => by simp [ml]
  | T + 1 => by
    have := ml_len c g T
    rw [ml_succ]
    split <;> simp <;> omega
theorem me_get {c : Nat → Nat} {g T i : Nat} (h : i < (ml c g T).length) : me c g T i = (ml c g T)[i] := by
  unfold me
  rw [List.getD_eq_getElem?_getD, List.getElem?_eq_getElem h]
  rfl
theorem me_in {c : Nat → Nat} {g T i : Nat} (h : i < (ml c g T).length) : me c g T i < T ∧ c (me c g T i) = g := by
  rw [me_get h]
  exact ml_in.mp (List.getElem_mem h)
theorem me_lt {c : Nat → Nat} {g T i j : Nat} (hij : i < j) (hj : j < (ml c g T).length) : me c g T i < me c g T j := by
  rw [me_get (show i < _ by omega), me_get hj]
  have hp : (ml c g T).Pairwise (· < ·) := List.Pairwise.filter _ List.pairwise_lt_range
  exact List.pairwise_iff_getElem.mp hp i j (by omega) hj hij
theorem me_inj {c : Nat → Nat} {g T i j : Nat} (hi : i < (ml c g T).length) (hj : j < (ml c g T).length) (h : me c g T i = me c g T j) : i = j := by
  rcases Nat.lt_trichotomy i j with q | q | q
  · have := me_lt q hj; omega
  · exact q
  · have := me_lt q hi; omega
theorem me_ex {c : Nat → Nat} {g T t : Nat} (ht : t < T) (hc : c t = g) : ∃ i, i < (ml c g T).length ∧ me c g T i = t := by
  obtain ⟨i, hi, he⟩ := List.getElem_of_mem (ml_in.mpr ⟨ht, hc⟩)
  exact ⟨i, hi, by rw [me_get hi]; exact he⟩
theorem me_stable {c : Nat → Nat} {g T i : Nat} (h : i < (ml c g T).length) : me c g (T + 1) i = me c g T i := by
  rw [me_get h, me_get (by rw [ml_succ, List.length_append]; omega)]
  simp only [ml_succ]
  rw [List.getElem_append_left h]
theorem me_new {c : Nat → Nat} {g T : Nat} (h : c T = g) : (ml c g (T + 1)).length = (ml c g T).length + 1 ∧ me c g (T + 1) (ml c g T).length = T := by
  have e1 : ml c g (T + 1) = ml c g T ++ [T] := by rw [ml_succ, if_pos h]
  have e2 : (ml c g (T + 1)).length = (ml c g T).length + 1 := by rw [e1, List.length_append]; rfl
  refine ⟨e2, ?_⟩
  rw [me_get (by omega)]
  simp [e1]
theorem ml_skip {c : Nat → Nat} {g T : Nat} (h : ¬ c T = g) : ml c g (T + 1) = ml c g T := by rw [ml_succ, if_neg h, List.append_nil]
/-- how many there are, as a sum -/
theorem ml_cnt (c : Nat → Nat) (g : Nat) : ∀ T, ((ml c g T).length : Int) = sm T (fun t => if c t = g then 1 else 0)
  | 0 => rfl
  | T + 1 => by
    show _ = sm T _ + (if c T = g then 1 else 0)
    rw [← ml_cnt c g T]
    by_cases h : c T = g
    · rw [(me_new h).1, if_pos h]; omega
    · rw [ml_skip h, if_neg h]; omega
/-- the least member is the label itself -/
theorem me_zero {e : Nat → Nat → Prop} {T : Nat} {c : Nat → Nat} (h : Lab e T c) {g : Nat} (hg : g < T) (hcg : c g = g) : 0 < (ml c g T).length ∧ me c g T 0 = g := by
  obtain ⟨i, hi, he⟩ := me_ex hg hcg
  refine ⟨by omega, ?_⟩
  have h1 := me_in (show 0 < (ml c g T).length by omega)
  have h2 := h.2.1 _ h1.1
  rw [h1.2] at h2
  by_cases q : i = 0
  · rw [← q]; exact he
  · have := me_lt (show 0 < i by omega) hi
    omega
/-- the members hang together -/
theorem me_Cn {e : Nat → Nat → Prop} {T : Nat} {c : Nat → Nat} (h : Lab e T c) (g : Nat) : Cn (fun p q => e (me c g T p) (me c g T q)) (ml c g T).length := by
  intro f hf p q hp hq
  have hidx : ∀ t, ∃ i, (t < T → c t = g → i < (ml c g T).length ∧ me c g T i = t) := by
    intro t
    by_cases h1 : t < T ∧ c t = g
    · obtain ⟨i, hi, he⟩ := me_ex h1.1 h1.2
      exact ⟨i, fun _ _ => ⟨hi, he⟩⟩
    · exact ⟨0, fun a b => absurd ⟨a, b⟩ h1⟩
  obtain ⟨idx, hch⟩ : ∃ idx : Nat → Nat, ∀ t, t < T → c t = g → idx t < (ml c g T).length ∧ me c g T (idx t) = t := ⟨fun t => Classical.choose (hidx t), fun t => Classical.choose_spec (hidx t)⟩
  have hinv : EInv e T (fun t => if c t = g then f (idx t) + 1 else 0) := by
    intro a b hab hb he
    have hc := h.1 a b hab hb he
    show (if c a = g then f (idx a) + 1 else 0) = (if c b = g then f (idx b) + 1 else 0)
    by_cases q1 : c a = g
    · rw [if_pos q1, if_pos (by omega)]
      have s1 := hch a (by omega) q1
      have s2 := hch b hb (by omega)
      have hlt : idx a < idx b := by
        rcases Nat.lt_trichotomy (idx a) (idx b) with z | z | z
        · exact z
        · rw [z] at s1; omega
        · have := me_lt z s1.1; omega
      have := hf _ _ hlt s2.1 (by show e (me c g T _) (me c g T _); rw [s1.2, s2.2]; exact he)
      omega
    · rw [if_neg q1, if_neg (by omega)]
  have key : ∀ i, i < (ml c g T).length → (if c (me c g T i) = g then f (idx (me c g T i)) + 1 else 0) = f i + 1 := by
    intro i hi
    have h1 := me_in hi
    rw [if_pos h1.2]
    have s1 := hch (me c g T i) h1.1 h1.2
    rw [me_inj s1.1 hi s1.2]
  have hp1 := me_in hp
  have hq1 := me_in hq
  have k1 := h.2.2 _ hinv (me c g T p) hp1.1
  have k2 := h.2.2 _ hinv (me c g T q) hq1.1
  have k3 := key p hp
  have k4 := key q hq
  rw [hp1.2, if_pos rfl] at k1 k3
  rw [hq1.2, if_pos rfl] at k2 k4
  omega
end
section
/-! the matrix as it is filled, pair by pair; the solving from below -/
theorem pair_row {F : Nat → Nat → Int} {X Y : Nat → Int} {n a : Nat} (ha : a < n) (h : ∀ p q, p < q → q < n → F p q = (if p = a then X q else 0) + (if q = a then Y p else 0)) : sm n (fun p => sm n (fun q => if p < q then F p q else 0)) = sm n (fun k => if a < k then X k else if k < a then Y k else 0) := by
  have e1 : sm n (fun p => sm n (fun q => if p < q then F p q else 0)) = sm n (fun p => sm n (fun q => if p = a then (if p < q then X q else 0) else 0)) + sm n (fun p => sm n (fun q => if q = a then (if p < q then Y p else 0) else 0)) := by
    rw [← sm_add]
    apply sm_congr
    intro p hp
    rw [← sm_add]
    apply sm_congr
    intro q hq
    by_cases q1 : p < q
    · rw [if_pos q1, if_pos q1, if_pos q1, h p q q1 hq]
    · rw [if_neg q1, if_neg q1, if_neg q1]
      split <;> split <;> rfl
  have e2 : sm n (fun p => sm n (fun q => if p = a then (if p < q then X q else 0) else 0)) = sm n (fun q => if a < q then X q else 0) := by
    rw [sm_one (f := fun p => sm n (fun q => if p = a then (if p < q then X q else 0) else 0)) (k := a) ha (fun i _ q => sm_zero (fun j _ => if_neg q))]
    exact sm_congr (fun q _ => if_pos rfl)
  have e3 : sm n (fun p => sm n (fun q => if q = a then (if p < q then Y p else 0) else 0)) = sm n (fun p => if p < a then Y p else 0) := by
    apply sm_congr
    intro p hp
    rw [sm_one (f := fun q => if q = a then (if p < q then Y p else 0) else 0) (k := a) ha (fun i _ q => if_neg q), if_pos rfl]
  rw [e1, e2, e3, ← sm_add]
  apply sm_congr
  intro k hk
  by_cases q1 : a < k
  · rw [if_pos q1, if_neg (by omega), if_pos q1]; omega
  · by_cases q2 : k < a
    · simp [q1, q2]
    · simp [q1, q2]
/-- what the model adds at (a, b) for the pair i < j -/
noncomputable def kM (e : Nat → Nat → Prop) (w : Nat → Nat → Int) (a b i j : Nat) : Int := cif (e i j) ((if a = i ∧ b = i then 1 else 0) + (if a = j ∧ b = j then 1 else 0) - (if a = i ∧ b = j then 1 else 0) - (if a = j ∧ b = i ∧ i ≠ 0 then 1 else 0) + (if a = i ∧ b = 0 ∧ i ≠ 0 then w i j else 0) - (if a = j ∧ b = 0 then w i j else 0)) 0
/-- what the class adds at (a, b) for the pair p < q, with the right side in column R -/
noncomputable def kC (e : Nat → Nat → Prop) (w : Nat → Nat → Int) (R a b p q : Nat) : Int := cif (e p q) ((if a = p ∧ b = p then 1 else 0) + (if a = p ∧ b = R then w p q else 0) + (if q < R then (if a = q ∧ b = q then 1 else 0) - (if a = p ∧ b = q then 1 else 0) - (if a = q ∧ b = p then 1 else 0) - (if a = q ∧ b = R then w p q else 0) else 0)) 0
theorem cif_add {p : Prop} {x z : Int} : cif p (x + z) 0 = cif p x 0 + cif p z 0 := by
  by_cases h : p
  · rw [cif_pos h, cif_pos h, cif_pos h]
  · rw [cif_neg h, cif_neg h, cif_neg h]; rfl
theorem asm_M {e : Nat → Nat → Prop} {w : Nat → Nat → Int} {n a b : Nat} (ha : a < n) (hb : b < n) (ha0 : a ≠ 0) : sm n (fun p => sm n (fun q => if p < q then kM e w a b p q else 0)) = if b = 0 then bb e w n a else La e n a b := by
  rw [pair_row (X := fun q => cif (e a q) ((if b = a then 1 else 0) - (if b = q then 1 else 0) + (if b = 0 then w a q else 0)) 0) (Y := fun p => cif (e p a) ((if b = a then 1 else 0) - (if b = p ∧ p ≠ 0 then 1 else 0) - (if b = 0 then w p a else 0)) 0) ha (fun p q hpq hq => by
    unfold kM
    by_cases h : e p q
    · rw [cif_pos h]
      by_cases q1 : p = a
      · subst q1
        rw [if_pos rfl, if_neg (show ¬ q = p by omega), cif_pos h]
        by_cases q2 : b = p
        · subst q2
          simp [show b ≠ 0 by omega, show ¬ b = q by omega]
        · by_cases q3 : b = q
          · subst q3
            simp [q2, show ¬ p = b by omega, show b ≠ 0 by omega]
          · by_cases q4 : b = 0
            · subst q4
              simp [q2, q3, show ¬ p = q by omega, ha0, show ¬ 0 = p by omega, show ¬ 0 = q by omega]
            · simp [q2, q3, q4, show ¬ p = q by omega]
      · by_cases q2 : q = a
        · subst q2
          rw [if_neg q1, if_pos rfl, cif_pos h]
          by_cases q3 : b = q
          · subst q3
            simp [show ¬ b = p by omega, show b ≠ 0 by omega]
          · by_cases q4 : b = p
            · subst q4
              by_cases q5 : b = 0
              · subst q5
                simp [show ¬ q = 0 by omega, show ¬ 0 = q by omega]
              · simp [show ¬ q = b by omega, show ¬ b = q by omega, q5]
            · by_cases q5 : b = 0
              · subst q5
                simp [q3, q4, show ¬ q = p by omega, show ¬ 0 = q by omega, show ¬ 0 = p by omega]
              · simp [q3, q4, q5, show ¬ q = p by omega]
        · rw [if_neg q1, if_neg q2]
          simp [show ¬ a = p by omega, show ¬ a = q by omega]
    · rw [cif_neg h]
      by_cases q1 : p = a
      · subst q1
        rw [if_pos rfl, if_neg (show ¬ q = p by omega), cif_neg h]; rfl
      · rw [if_neg q1]
        by_cases q2 : q = a
        · subst q2
          rw [if_pos rfl, cif_neg h]; rfl
        · rw [if_neg q2]; rfl)]
  by_cases q0 : b = 0
  · subst q0
    rw [if_pos rfl]
    unfold bb
    apply sm_congr
    intro k hk
    unfold ws
    by_cases q1 : a < k
    · rw [if_pos q1, if_pos q1]
      congr 1
      simp [show ¬ 0 = a by omega, show ¬ 0 = k by omega]
    · rw [if_neg q1, if_neg q1]
      by_cases q2 : k < a
      · rw [if_pos q2, if_pos q2]
        by_cases h : e k a
        · rw [cif_pos h, cif_pos h]
          by_cases q3 : k = 0
          · subst q3; simp [show ¬ 0 = a by omega]
          · simp [show ¬ 0 = a by omega, show ¬ 0 = k by omega]
        · rw [cif_neg h, cif_neg h]; rfl
      · rw [if_neg q2, if_neg q2]
  · rw [if_neg q0]
    unfold La
    by_cases q1 : a = b
    · subst q1
      rw [if_pos rfl, if_pos rfl]
      apply sm_congr
      intro k hk
      unfold es
      by_cases q1 : a < k
      · rw [if_pos q1, if_pos q1]
        congr 1
        simp [show ¬ a = k by omega, q0]
      · rw [if_neg q1, if_neg q1]
        by_cases q2 : k < a
        · rw [if_pos q2, if_pos q2]
          congr 1
          simp [show ¬ a = k by omega, q0]
        · rw [if_neg q2, if_neg q2]
    · rw [if_neg q1]
      rw [sm_one (k := b) hb (fun k hk q => by
        by_cases q1 : a < k
        · rw [if_pos q1]
          by_cases h : e a k
          · rw [cif_pos h]; simp [show ¬ b = a by omega, show ¬ b = k by omega, q0]
          · rw [cif_neg h]
        · rw [if_neg q1]
          by_cases q2 : k < a
          · rw [if_pos q2]
            by_cases h : e k a
            · rw [cif_pos h]; simp [show ¬ b = a by omega, show ¬ b = k by omega, q0]
            · rw [cif_neg h]
          · rw [if_neg q2])]
      unfold es
      by_cases q1 : a < b
      · rw [if_pos q1, if_pos q1]
        by_cases h : e a b
        · rw [cif_pos h, cif_pos h]; simp [show ¬ b = a by omega, q0]
        · rw [cif_neg h, cif_neg h]; rfl
      · rw [if_neg q1, if_pos (show b < a by omega), if_neg q1, if_pos (show b < a by omega)]
        by_cases h : e b a
        · rw [cif_pos h, cif_pos h]; simp [show ¬ b = a by omega, q0]
        · rw [cif_neg h, cif_neg h]; rfl
theorem asm_C {e : Nat → Nat → Prop} {w : Nat → Nat → Int} {R a b : Nat} (ha : a < R) (hb : b ≤ R) : sm (R + 1) (fun p => sm (R + 1) (fun q => if p < q then kC e w R a b p q else 0)) = if b = R then bb e w (R + 1) a else La e (R + 1) a b := by
  rw [pair_row (X := fun q => cif (e a q) ((if b = a then 1 else 0) - (if b = q ∧ q < R then 1 else 0) + (if b = R then w a q else 0)) 0) (Y := fun p => cif (e p a) ((if b = a then 1 else 0) - (if b = p then 1 else 0) - (if b = R then w p a else 0)) 0) (show a < R + 1 by omega) (fun p q hpq hq => by
    unfold kC
    by_cases h : e p q
    · rw [cif_pos h]
      by_cases q1 : p = a
      · subst q1
        rw [if_pos rfl, if_neg (show ¬ q = p by omega), cif_pos h]
        by_cases q2 : q < R
        · simp [q2, show ¬ p = q by omega]
          by_cases q3 : b = p
          · subst q3; simp [show ¬ b = R by omega, show ¬ b = q by omega]
          · by_cases q4 : b = R
            · subst q4; simp [q3, show ¬ b = q by omega]
            · by_cases q5 : b = q
              · rw [q5]; simp [show ¬ q = p by omega, show ¬ q = R by omega]
              · simp [q3, q4, q5]
        · simp [q2]
      · by_cases q2 : q = a
        · subst q2
          rw [if_neg q1, if_pos rfl, cif_pos h]
          simp [ha, show ¬ q = p by omega]
        · rw [if_neg q1, if_neg q2]
          simp [show ¬ a = p by omega, show ¬ a = q by omega]
    · rw [cif_neg h]
      by_cases q1 : p = a
      · subst q1
        rw [if_pos rfl, if_neg (show ¬ q = p by omega), cif_neg h]; rfl
      · rw [if_neg q1]
        by_cases q2 : q = a
        · subst q2
          rw [if_pos rfl, cif_neg h]; rfl
        · rw [if_neg q2]; rfl)]
  by_cases q0 : b = R
  · rw [if_pos q0]
    subst q0
    unfold bb
    apply sm_congr
    intro k hk
    unfold ws
    by_cases q1 : a < k
    · rw [if_pos q1, if_pos q1]
      congr 1
      simp [show ¬ b = a by omega]
      omega
    · rw [if_neg q1, if_neg q1]
      by_cases q2 : k < a
      · rw [if_pos q2, if_pos q2]
        by_cases h : e k a
        · rw [cif_pos h, cif_pos h]
          simp [show ¬ b = a by omega, show ¬ b = k by omega]
        · rw [cif_neg h, cif_neg h]; rfl
      · rw [if_neg q2, if_neg q2]
  · rw [if_neg q0]
    unfold La
    by_cases q1 : a = b
    · subst q1
      rw [if_pos rfl, if_pos rfl]
      apply sm_congr
      intro k hk
      unfold es
      by_cases q1 : a < k
      · rw [if_pos q1, if_pos q1]
        congr 1
        simp [show ¬ a = k by omega, q0]
      · rw [if_neg q1, if_neg q1]
        by_cases q2 : k < a
        · rw [if_pos q2, if_pos q2]
          congr 1
          simp [show ¬ a = k by omega, q0]
        · rw [if_neg q2, if_neg q2]
    · rw [if_neg q1]
      rw [sm_one (k := b) (show b < R + 1 by omega) (fun k hk q => by
        by_cases q1 : a < k
        · rw [if_pos q1]
          by_cases h : e a k
          · rw [cif_pos h]; simp [show ¬ b = a by omega, show ¬ b = k by omega, q0]
          · rw [cif_neg h]
        · rw [if_neg q1]
          by_cases q2 : k < a
          · rw [if_pos q2]
            by_cases h : e k a
            · rw [cif_pos h]; simp [show ¬ b = a by omega, show ¬ b = k by omega, q0]
            · rw [cif_neg h]
          · rw [if_neg q2])]
      unfold es
      by_cases q1 : a < b
      · rw [if_pos q1, if_pos q1]
        by_cases h : e a b
        · rw [cif_pos h, cif_pos h]; simp [show ¬ b = a by omega, q0, show b < R by omega]
        · rw [cif_neg h, cif_neg h]; rfl
      · rw [if_neg q1, if_pos (show b < a by omega), if_neg q1, if_pos (show b < a by omega)]
        by_cases h : e b a
        · rw [cif_pos h, cif_pos h]; simp [show ¬ b = a by omega, q0]
        · rw [cif_neg h, cif_neg h]; rfl
/-- what solves the first system solves every one on the way -/
theorem persist {n : Nat} {A : Nat → Nat → Int} (hA : MM n A) {x b : Nat → Int} {t : Int} (h : ∀ r, r < n → sm n (fun c => A r c * x c) = t * b r) : ∀ k, k ≤ n → ∀ r, r < n → sm n (fun c => Ss k A r (col A c) * x c) = t * Ss k A r b
  | 0, _, r, hr => by
    rw [Ss_zero, ← h r hr]
    exact sm_congr (fun c _ => by rw [Ss_zero])
  | k + 1, hk, r, hr => by
    have p0 := D_pos hA (show k ≤ n by omega)
    have p1 := D_pos hA hk
    apply Int.eq_of_mul_eq_mul_left (show dt k A ≠ 0 by omega)
    have e1 : dt k A * sm n (fun c => Ss (k + 1) A r (col A c) * x c) = dt (k + 1) A * sm n (fun c => Ss k A r (col A c) * x c) - Ss k A r (col A k) * sm n (fun c => Ss k A k (col A c) * x c) := by
      rw [← sm_mul, ← sm_mul, ← sm_mul, ← sm_sub]
      apply sm_congr
      intro c hc
      have := rec_S hA.1 (show k < n by omega) (by omega) (by omega) (col A c) r
      generalize Ss (k + 1) A r (col A c) = s1 at *
      generalize Ss k A r (col A c) = s2 at *
      generalize Ss k A k (col A c) = s3 at *
      generalize Ss k A r (col A k) = s4 at *
      generalize dt (k + 1) A = d1 at *
      generalize dt k A = d0 at *
      grind
    have e2 := rec_S hA.1 (show k < n by omega) (by omega) (by omega) b r
    rw [e1, persist hA h k (by omega) r hr, persist hA h k (by omega) k (by omega)]
    generalize Ss (k + 1) A r b = s1 at *
    generalize Ss k A r b = s2 at *
    generalize Ss k A k b = s3 at *
    generalize Ss k A r (col A k) = s4 at *
    generalize dt (k + 1) A = d1 at *
    generalize dt k A = d0 at *
    grind
/-- the model's system from below: row r of what is left, at column k (0: the right side) -/
noncomputable def mR (e : Nat → Nat → Prop) (w : Nat → Nat → Int) (n r k : Nat) : Int := Ss (r - 1) (Ao e n 1) (r - 1) (if k = 0 then bo e w n 1 else col (Ao e n 1) (k - 1))
theorem mR_back {e : Nat → Nat → Prop} {w : Nat → Nat → Int} {n r : Nat} (hc : Cn e (n + 1)) (hn : n ≤ 7) (hw : ∀ a b, a < b → b < n + 1 → e a b → -200000 ≤ w a b ∧ w a b ≤ 200000) (h1 : 1 ≤ r) (hr : r < n + 1) : mR e w n r 0 * Do e n 1 - sm (n + 1) (fun k => if r < k then mR e w n r k * Xo e w n 1 k else 0) = mR e w n r r * Xo e w n 1 r ∧ i64 (mR e w n r r * Xo e w n 1 r) ∧ i64 (mR e w n r r) ∧ mR e w n r r ≠ 0 := by
  have hA : MM n (Ao e n 1) := La_MM hc hn (by omega)
  have hb : ∀ q, q < n → -1400000 ≤ bo e w n 1 q ∧ bo e w n 1 q ≤ 1400000 := fun q hq => bb_bd (by omega) hw (by omega)
  obtain ⟨i, rfl⟩ : ∃ i, r = i + 1 := ⟨r - 1, by omega⟩
  have hi : i < n := by omega
  have hp := persist hA (x := Gs n (Ao e n 1) (bo e w n 1)) (b := bo e w n 1) (t := dt n (Ao e n 1)) (fun q hq => cramer _ _ hq) i (by omega) i hi
  have p0 := D_pos hA (show i ≤ n by omega)
  have p1 := D_pos hA (show i + 1 ≤ n by omega)
  have p2 := D_le hA (i + 1) (by omega)
  have p3 := p7' (show i + 1 ≤ 7 by omega)
  have g0 := Gb_bd hA hn hb n (Nat.le_refl n) i hi
  have g1 := g7 hn
  have erow : ∀ k, mR e w n (i + 1) (k + 1) = Ss i (Ao e n 1) i (col (Ao e n 1) k) := fun k => by unfold mR; rw [if_neg (by omega)]; rfl
  have e0 : mR e w n (i + 1) 0 = Ss i (Ao e n 1) i (bo e w n 1) := by unfold mR; rw [if_pos rfl]; rfl
  have ed : mR e w n (i + 1) (i + 1) = dt (i + 1) (Ao e n 1) := by rw [erow, Ss_piv]
  have ex : Xo e w n 1 (i + 1) = Gs n (Ao e n 1) (bo e w n 1) i := Xo_at (by omega) hi
  refine ⟨?_, ?_, ?_, ?_⟩
  · rw [e0, ex, erow, sm_head, if_neg (by omega), Int.zero_add]
    have e2 : sm n (fun c => Ss i (Ao e n 1) i (col (Ao e n 1) c) * Gs n (Ao e n 1) (bo e w n 1) c) = sm n (fun c => if c = i then Ss i (Ao e n 1) i (col (Ao e n 1) i) * Gs n (Ao e n 1) (bo e w n 1) i else 0) + sm n (fun c => if i + 1 < c + 1 then mR e w n (i + 1) (c + 1) * Xo e w n 1 (c + 1) else 0) := by
      rw [← sm_add]
      apply sm_congr
      intro c hc2
      rcases Nat.lt_trichotomy c i with q | q | q
      · rw [if_neg (by omega), if_neg (by omega), Ss_unit hA.1 (show i ≤ n by omega) (by omega) q, Int.zero_mul]; rfl
      · subst q
        rw [if_pos rfl, if_neg (by omega)]; omega
      · rw [if_neg (by omega), if_pos (by omega), erow, Xo_at (by omega) hc2]; omega
    rw [e2, sm_one (f := fun c => if c = i then Ss i (Ao e n 1) i (col (Ao e n 1) i) * Gs n (Ao e n 1) (bo e w n 1) i else 0) (k := i) hi (fun j _ q => if_neg q), if_pos rfl] at hp
    have e3 : Ss i (Ao e n 1) i (bo e w n 1) * Do e n 1 = dt n (Ao e n 1) * Ss i (Ao e n 1) i (bo e w n 1) := Int.mul_comm _ _
    rw [e3]
    omega
  · rw [ed, ex]
    have := mbz (x := dt (i + 1) (Ao e n 1)) (z := Gs n (Ao e n 1) (bo e w n 1) i) (a := 823543) (b := 8070721400000) (by omega) (by omega)
    omega
  · rw [ed]; omega
  · rw [ed]; omega
end
