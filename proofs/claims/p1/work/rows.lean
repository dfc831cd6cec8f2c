section
-- ===== PART A: goes FIRST, ahead of the names: the tables' words, and 'selects' of the private methods out of them =====
/-- a private method of a class that the tables say can be made, by its rows of tables_1 -/
def lw_okq (q : MethodName × Nat) : Prop := (q.1.cls ≠ "java/lang/invoke/MethodHandle" ∧ q.1.cls ≠ "java/lang/invoke/VarHandle") ∧ Cond.instantiable q.1.cls q.2 ∈ tables_1 ∧ Cond.privateMethod q.1 ∈ tables_1 ∧ Cond.instanceMethod q.1 ∈ tables_1
theorem lw_p0 : lw_okq (⟨"GrowingUrns", "sheetAt", "(I)LGrowingUrns$Sheet;"⟩, 10) := ⟨⟨by decide +kernel, by decide +kernel⟩, List.mem_of_getElem? (i := 14) (by decide +kernel), List.mem_of_getElem? (i := 253) (by decide +kernel), List.mem_of_getElem? (i := 254) (by decide +kernel)⟩
theorem lw_p1 : lw_okq (⟨"GrowingUrns", "urnAt", "(I)LGrowingUrns$Urn;"⟩, 10) := ⟨⟨by decide +kernel, by decide +kernel⟩, List.mem_of_getElem? (i := 14) (by decide +kernel), List.mem_of_getElem? (i := 291) (by decide +kernel), List.mem_of_getElem? (i := 292) (by decide +kernel)⟩
theorem lw_p2 : lw_okq (⟨"GrowingUrns", "keepAct", "()V"⟩, 10) := ⟨⟨by decide +kernel, by decide +kernel⟩, List.mem_of_getElem? (i := 14) (by decide +kernel), List.mem_of_getElem? (i := 303) (by decide +kernel), List.mem_of_getElem? (i := 304) (by decide +kernel)⟩
theorem lw_p3 : lw_okq (⟨"GrowingUrns", "findPath", "(I)Z"⟩, 10) := ⟨⟨by decide +kernel, by decide +kernel⟩, List.mem_of_getElem? (i := 14) (by decide +kernel), List.mem_of_getElem? (i := 382) (by decide +kernel), List.mem_of_getElem? (i := 383) (by decide +kernel)⟩
theorem lw_p4 : lw_okq (⟨"GrowingUrns", "goPath", "()V"⟩, 10) := ⟨⟨by decide +kernel, by decide +kernel⟩, List.mem_of_getElem? (i := 14) (by decide +kernel), List.mem_of_getElem? (i := 394) (by decide +kernel), List.mem_of_getElem? (i := 395) (by decide +kernel)⟩
theorem lw_p5 : lw_okq (⟨"GrowingUrns", "weighRows", "(LGrowingUrns$Urn;II)I"⟩, 10) := ⟨⟨by decide +kernel, by decide +kernel⟩, List.mem_of_getElem? (i := 14) (by decide +kernel), List.mem_of_getElem? (i := 450) (by decide +kernel), List.mem_of_getElem? (i := 451) (by decide +kernel)⟩
theorem lw_p6 : lw_okq (⟨"GrowingUrns$After", "walk", "(LGrowingUrns$Urn;IIZ)V"⟩, 11) := ⟨⟨by decide +kernel, by decide +kernel⟩, List.mem_of_getElem? (i := 103) (by decide +kernel), List.mem_of_getElem? (i := 473) (by decide +kernel), List.mem_of_getElem? (i := 474) (by decide +kernel)⟩
theorem lw_p7 : lw_okq (⟨"GrowingUrns$After", "walkStep", "(LGrowingUrns$Urn;IIIZ)V"⟩, 11) := ⟨⟨by decide +kernel, by decide +kernel⟩, List.mem_of_getElem? (i := 103) (by decide +kernel), List.mem_of_getElem? (i := 478) (by decide +kernel), List.mem_of_getElem? (i := 479) (by decide +kernel)⟩
theorem lw_p8 : lw_okq (⟨"GrowingUrns$After", "findBalls", "(LGrowingUrns$Urn;)V"⟩, 11) := ⟨⟨by decide +kernel, by decide +kernel⟩, List.mem_of_getElem? (i := 103) (by decide +kernel), List.mem_of_getElem? (i := 484) (by decide +kernel), List.mem_of_getElem? (i := 485) (by decide +kernel)⟩
theorem lw_p9 : lw_okq (⟨"GrowingUrns$After", "settle", "(JII)V"⟩, 11) := ⟨⟨by decide +kernel, by decide +kernel⟩, List.mem_of_getElem? (i := 103) (by decide +kernel), List.mem_of_getElem? (i := 488) (by decide +kernel), List.mem_of_getElem? (i := 489) (by decide +kernel)⟩
theorem lw_p10 : lw_okq (⟨"GrowingUrns$After", "spread", "(LGrowingUrns$Urn;IJIZ)V"⟩, 11) := ⟨⟨by decide +kernel, by decide +kernel⟩, List.mem_of_getElem? (i := 103) (by decide +kernel), List.mem_of_getElem? (i := 492) (by decide +kernel), List.mem_of_getElem? (i := 493) (by decide +kernel)⟩
theorem lw_p11 : lw_okq (⟨"GrowingUrns$Orders", "isAsAhead", "(ILGrowingUrns$Row;)Z"⟩, 2) := ⟨⟨by decide +kernel, by decide +kernel⟩, List.mem_of_getElem? (i := 89) (by decide +kernel), List.mem_of_getElem? (i := 550) (by decide +kernel), List.mem_of_getElem? (i := 551) (by decide +kernel)⟩
theorem lw_p12 : lw_okq (⟨"GrowingUrns", "drawsInAll", "()I"⟩, 10) := ⟨⟨by decide +kernel, by decide +kernel⟩, List.mem_of_getElem? (i := 14) (by decide +kernel), List.mem_of_getElem? (i := 563) (by decide +kernel), List.mem_of_getElem? (i := 564) (by decide +kernel)⟩
theorem lw_p13 : lw_okq (⟨"GrowingUrnsModel", "placed", "(II)I"⟩, 26) := ⟨⟨by decide +kernel, by decide +kernel⟩, List.mem_of_getElem? (i := 567) (by decide +kernel), List.mem_of_getElem? (i := 669) (by decide +kernel), List.mem_of_getElem? (i := 670) (by decide +kernel)⟩
theorem lw_p14 : lw_okq (⟨"GrowingUrnsModel", "isUrn", "(I)Z"⟩, 26) := ⟨⟨by decide +kernel, by decide +kernel⟩, List.mem_of_getElem? (i := 567) (by decide +kernel), List.mem_of_getElem? (i := 688) (by decide +kernel), List.mem_of_getElem? (i := 689) (by decide +kernel)⟩
theorem lw_p15 : lw_okq (⟨"GrowingUrnsModel", "isColour", "(II)Z"⟩, 26) := ⟨⟨by decide +kernel, by decide +kernel⟩, List.mem_of_getElem? (i := 567) (by decide +kernel), List.mem_of_getElem? (i := 692) (by decide +kernel), List.mem_of_getElem? (i := 693) (by decide +kernel)⟩
def lw_privs_1 : List (MethodName × Nat) := [(⟨"GrowingUrns", "sheetAt", "(I)LGrowingUrns$Sheet;"⟩, 10), (⟨"GrowingUrns", "urnAt", "(I)LGrowingUrns$Urn;"⟩, 10), (⟨"GrowingUrns", "keepAct", "()V"⟩, 10), (⟨"GrowingUrns", "findPath", "(I)Z"⟩, 10), (⟨"GrowingUrns", "goPath", "()V"⟩, 10), (⟨"GrowingUrns", "weighRows", "(LGrowingUrns$Urn;II)I"⟩, 10), (⟨"GrowingUrns$After", "walk", "(LGrowingUrns$Urn;IIZ)V"⟩, 11), (⟨"GrowingUrns$After", "walkStep", "(LGrowingUrns$Urn;IIIZ)V"⟩, 11), (⟨"GrowingUrns$After", "findBalls", "(LGrowingUrns$Urn;)V"⟩, 11), (⟨"GrowingUrns$After", "settle", "(JII)V"⟩, 11), (⟨"GrowingUrns$After", "spread", "(LGrowingUrns$Urn;IJIZ)V"⟩, 11), (⟨"GrowingUrns$Orders", "isAsAhead", "(ILGrowingUrns$Row;)Z"⟩, 2), (⟨"GrowingUrns", "drawsInAll", "()I"⟩, 10), (⟨"GrowingUrnsModel", "placed", "(II)I"⟩, 26), (⟨"GrowingUrnsModel", "isUrn", "(I)Z"⟩, 26), (⟨"GrowingUrnsModel", "isColour", "(II)Z"⟩, 26)]
theorem lw_r1 : ∀ q ∈ lw_privs_1, lw_okq q := List.forall_mem_cons.mpr ⟨lw_p0, List.forall_mem_cons.mpr ⟨lw_p1, List.forall_mem_cons.mpr ⟨lw_p2, List.forall_mem_cons.mpr ⟨lw_p3, List.forall_mem_cons.mpr ⟨lw_p4, List.forall_mem_cons.mpr ⟨lw_p5, List.forall_mem_cons.mpr ⟨lw_p6, List.forall_mem_cons.mpr ⟨lw_p7, List.forall_mem_cons.mpr ⟨lw_p8, List.forall_mem_cons.mpr ⟨lw_p9, List.forall_mem_cons.mpr ⟨lw_p10, List.forall_mem_cons.mpr ⟨lw_p11, List.forall_mem_cons.mpr ⟨lw_p12, List.forall_mem_cons.mpr ⟨lw_p13, List.forall_mem_cons.mpr ⟨lw_p14, List.forall_mem_cons.mpr ⟨lw_p15, fun _ h => absurd h List.not_mem_nil⟩⟩⟩⟩⟩⟩⟩⟩⟩⟩⟩⟩⟩⟩⟩⟩
theorem lw_p16 : lw_okq (⟨"GrowingUrnsModel", "keep", "()V"⟩, 26) := ⟨⟨by decide +kernel, by decide +kernel⟩, List.mem_of_getElem? (i := 567) (by decide +kernel), List.mem_of_getElem? (i := 699) (by decide +kernel), List.mem_of_getElem? (i := 700) (by decide +kernel)⟩
theorem lw_p17 : lw_okq (⟨"GrowingUrnsModel", "balls", "(I)I"⟩, 26) := ⟨⟨by decide +kernel, by decide +kernel⟩, List.mem_of_getElem? (i := 567) (by decide +kernel), List.mem_of_getElem? (i := 724) (by decide +kernel), List.mem_of_getElem? (i := 725) (by decide +kernel)⟩
theorem lw_p18 : lw_okq (⟨"GrowingUrnsModel", "isEven", "(I)Z"⟩, 26) := ⟨⟨by decide +kernel, by decide +kernel⟩, List.mem_of_getElem? (i := 567) (by decide +kernel), List.mem_of_getElem? (i := 728) (by decide +kernel), List.mem_of_getElem? (i := 729) (by decide +kernel)⟩
theorem lw_p19 : lw_okq (⟨"GrowingUrnsModel", "addedSum", "(II)I"⟩, 26) := ⟨⟨by decide +kernel, by decide +kernel⟩, List.mem_of_getElem? (i := 567) (by decide +kernel), List.mem_of_getElem? (i := 732) (by decide +kernel), List.mem_of_getElem? (i := 733) (by decide +kernel)⟩
theorem lw_p20 : lw_okq (⟨"GrowingUrnsModel", "isLike", "(I)Z"⟩, 26) := ⟨⟨by decide +kernel, by decide +kernel⟩, List.mem_of_getElem? (i := 567) (by decide +kernel), List.mem_of_getElem? (i := 736) (by decide +kernel), List.mem_of_getElem? (i := 737) (by decide +kernel)⟩
theorem lw_p21 : lw_okq (⟨"GrowingUrnsModel", "canDraw", "(II)Z"⟩, 26) := ⟨⟨by decide +kernel, by decide +kernel⟩, List.mem_of_getElem? (i := 567) (by decide +kernel), List.mem_of_getElem? (i := 748) (by decide +kernel), List.mem_of_getElem? (i := 749) (by decide +kernel)⟩
theorem lw_p22 : lw_okq (⟨"GrowingUrnsModel", "draws", "(II)V"⟩, 26) := ⟨⟨by decide +kernel, by decide +kernel⟩, List.mem_of_getElem? (i := 567) (by decide +kernel), List.mem_of_getElem? (i := 752) (by decide +kernel), List.mem_of_getElem? (i := 753) (by decide +kernel)⟩
theorem lw_p23 : lw_okq (⟨"GrowingUrnsModel", "looks", "(I)Z"⟩, 26) := ⟨⟨by decide +kernel, by decide +kernel⟩, List.mem_of_getElem? (i := 567) (by decide +kernel), List.mem_of_getElem? (i := 765) (by decide +kernel), List.mem_of_getElem? (i := 766) (by decide +kernel)⟩
theorem lw_p24 : lw_okq (⟨"GrowingUrnsModel", "doesDraws", "()I"⟩, 26) := ⟨⟨by decide +kernel, by decide +kernel⟩, List.mem_of_getElem? (i := 567) (by decide +kernel), List.mem_of_getElem? (i := 772) (by decide +kernel), List.mem_of_getElem? (i := 773) (by decide +kernel)⟩
theorem lw_p25 : lw_okq (⟨"GrowingUrnsModel", "follows", "(III)Z"⟩, 26) := ⟨⟨by decide +kernel, by decide +kernel⟩, List.mem_of_getElem? (i := 567) (by decide +kernel), List.mem_of_getElem? (i := 794) (by decide +kernel), List.mem_of_getElem? (i := 795) (by decide +kernel)⟩
theorem lw_p26 : lw_okq (⟨"GrowingUrnsModel", "tells", "(JJ)I"⟩, 26) := ⟨⟨by decide +kernel, by decide +kernel⟩, List.mem_of_getElem? (i := 567) (by decide +kernel), List.mem_of_getElem? (i := 802) (by decide +kernel), List.mem_of_getElem? (i := 803) (by decide +kernel)⟩
theorem lw_p27 : lw_okq (⟨"GrowingUrnsModel", "isAsked", "(II)Z"⟩, 26) := ⟨⟨by decide +kernel, by decide +kernel⟩, List.mem_of_getElem? (i := 567) (by decide +kernel), List.mem_of_getElem? (i := 810) (by decide +kernel), List.mem_of_getElem? (i := 811) (by decide +kernel)⟩
theorem lw_p28 : lw_okq (⟨"GrowingUrnsModel", "evenFault", "(II)I"⟩, 26) := ⟨⟨by decide +kernel, by decide +kernel⟩, List.mem_of_getElem? (i := 567) (by decide +kernel), List.mem_of_getElem? (i := 814) (by decide +kernel), List.mem_of_getElem? (i := 815) (by decide +kernel)⟩
theorem lw_p29 : lw_okq (⟨"GrowingUrnsModel", "goes", "(IIIIII)V"⟩, 26) := ⟨⟨by decide +kernel, by decide +kernel⟩, List.mem_of_getElem? (i := 567) (by decide +kernel), List.mem_of_getElem? (i := 819) (by decide +kernel), List.mem_of_getElem? (i := 820) (by decide +kernel)⟩
theorem lw_p30 : lw_okq (⟨"GrowingUrnsModel", "looksAt", "(III)V"⟩, 26) := ⟨⟨by decide +kernel, by decide +kernel⟩, List.mem_of_getElem? (i := 567) (by decide +kernel), List.mem_of_getElem? (i := 826) (by decide +kernel), List.mem_of_getElem? (i := 827) (by decide +kernel)⟩
theorem lw_p31 : lw_okq (⟨"GrowingUrnsModel", "spreads", "(IIIJJII)V"⟩, 26) := ⟨⟨by decide +kernel, by decide +kernel⟩, List.mem_of_getElem? (i := 567) (by decide +kernel), List.mem_of_getElem? (i := 830) (by decide +kernel), List.mem_of_getElem? (i := 831) (by decide +kernel)⟩
def lw_privs_2 : List (MethodName × Nat) := [(⟨"GrowingUrnsModel", "keep", "()V"⟩, 26), (⟨"GrowingUrnsModel", "balls", "(I)I"⟩, 26), (⟨"GrowingUrnsModel", "isEven", "(I)Z"⟩, 26), (⟨"GrowingUrnsModel", "addedSum", "(II)I"⟩, 26), (⟨"GrowingUrnsModel", "isLike", "(I)Z"⟩, 26), (⟨"GrowingUrnsModel", "canDraw", "(II)Z"⟩, 26), (⟨"GrowingUrnsModel", "draws", "(II)V"⟩, 26), (⟨"GrowingUrnsModel", "looks", "(I)Z"⟩, 26), (⟨"GrowingUrnsModel", "doesDraws", "()I"⟩, 26), (⟨"GrowingUrnsModel", "follows", "(III)Z"⟩, 26), (⟨"GrowingUrnsModel", "tells", "(JJ)I"⟩, 26), (⟨"GrowingUrnsModel", "isAsked", "(II)Z"⟩, 26), (⟨"GrowingUrnsModel", "evenFault", "(II)I"⟩, 26), (⟨"GrowingUrnsModel", "goes", "(IIIIII)V"⟩, 26), (⟨"GrowingUrnsModel", "looksAt", "(III)V"⟩, 26), (⟨"GrowingUrnsModel", "spreads", "(IIIJJII)V"⟩, 26)]
theorem lw_r2 : ∀ q ∈ lw_privs_2, lw_okq q := List.forall_mem_cons.mpr ⟨lw_p16, List.forall_mem_cons.mpr ⟨lw_p17, List.forall_mem_cons.mpr ⟨lw_p18, List.forall_mem_cons.mpr ⟨lw_p19, List.forall_mem_cons.mpr ⟨lw_p20, List.forall_mem_cons.mpr ⟨lw_p21, List.forall_mem_cons.mpr ⟨lw_p22, List.forall_mem_cons.mpr ⟨lw_p23, List.forall_mem_cons.mpr ⟨lw_p24, List.forall_mem_cons.mpr ⟨lw_p25, List.forall_mem_cons.mpr ⟨lw_p26, List.forall_mem_cons.mpr ⟨lw_p27, List.forall_mem_cons.mpr ⟨lw_p28, List.forall_mem_cons.mpr ⟨lw_p29, List.forall_mem_cons.mpr ⟨lw_p30, List.forall_mem_cons.mpr ⟨lw_p31, fun _ h => absurd h List.not_mem_nil⟩⟩⟩⟩⟩⟩⟩⟩⟩⟩⟩⟩⟩⟩⟩⟩
theorem lw_p32 : lw_okq (⟨"GrowingUrnsModel", "sum", "(I)J"⟩, 26) := ⟨⟨by decide +kernel, by decide +kernel⟩, List.mem_of_getElem? (i := 567) (by decide +kernel), List.mem_of_getElem? (i := 855) (by decide +kernel), List.mem_of_getElem? (i := 856) (by decide +kernel)⟩
def lw_privs_3 : List (MethodName × Nat) := [(⟨"GrowingUrnsModel", "sum", "(I)J"⟩, 26)]
theorem lw_r3 : ∀ q ∈ lw_privs_3, lw_okq q := List.forall_mem_cons.mpr ⟨lw_p32, fun _ h => absurd h List.not_mem_nil⟩
def lw_privs : List (MethodName × Nat) := lw_privs_1 ++ (lw_privs_2 ++ (lw_privs_3))
def lw_tbl : List Cond := k2_sels lw_privs ++ tables_1
theorem lw_privs_ok : ∀ q ∈ lw_privs, lw_okq q := by
  show ∀ q ∈ lw_privs_1 ++ (lw_privs_2 ++ (lw_privs_3)), lw_okq q
  exact List.forall_mem_append.mpr ⟨lw_r1, List.forall_mem_append.mpr ⟨lw_r2, lw_r3⟩⟩
def vr_up {α : Type} (f : Nat → α) (l : List Nat) (v : α) : Nat → α := fun a => if a ∈ l then v else f a
theorem vr_up_in {α : Type} {f : Nat → α} {l : List Nat} {v : α} {a : Nat} (h : a ∈ l) : vr_up f l v a = v := if_pos h
theorem vr_up_ne {α : Type} {f : Nat → α} {l : List Nat} {v : α} {a : Nat} (h : a ∉ l) : vr_up f l v a = f a := if_neg h
theorem vr_rows {L l : List Nat} {f : Nat → va_E} {e : va_E} (h : ∀ a, a ∈ l → a ∉ L) : va_pl L f ++ l.map (fun a => (a, e)) = va_pl (L ++ l) (vr_up f l e) := by
  unfold va_pl
  rw [List.map_append]
  congr 1
  · apply List.map_congr_left
    intro a ha
    rw [vr_up_ne (fun q => h a q ha)]
  · apply List.map_congr_left
    intro a ha
    rw [vr_up_in ha]
theorem vr_lay {X rows : va_W} {x : Nat × va_E} {pl : va_W} {D : va_G} {cl : List vw_C} {H : Heap} (hP : va_P D cl (((X ++ pl) ++ [x]) ++ rows) H) : va_P D cl ((X ++ [x]) ++ (pl ++ rows)) H := by
  rw [List.append_assoc (X ++ pl)] at hP
  have h := va_P.swap hP
  rw [← List.append_assoc X] at h
  have h2 := va_P.swap h
  rw [List.append_assoc (X ++ [x])] at h2
  exact h2
theorem vr_layD {X rows : va_W} {x : Nat × va_E} {pl : va_W} {A : Nat → Prop} (hD : va_D A (((X ++ pl) ++ [x]) ++ rows)) : va_D A ((X ++ [x]) ++ (pl ++ rows)) := by
  rw [List.append_assoc (X ++ pl)] at hD
  have h := va_D.swap hD
  rw [← List.append_assoc X] at h
  have h2 := va_D.swap h
  rw [List.append_assoc (X ++ [x])] at h2
  exact h2
theorem vr_outer (c : ClassId) (N h0 : Nat) : ∀ i : Nat, Jvm.Free.Multi.outerC c N h0 i = arrV c N (fun j => va_rf (if j < i then some (h0 + 1 + j) else none))
  | 0 => by
    show ({ cls := c, slots := Array.replicate N .null, vm := .none } : Cell) = _
    rw [arrV_new]
    refine congrArg (arrV c N) (funext fun j => ?_)
    simp [va_rf]
  | i + 1 => by
    show (Jvm.Free.Multi.outerC c N h0 i).setSlot i (.ref (h0 + 1 + i)) = _
    rw [vr_outer c N h0 i, arrV_store]
    refine congrArg (arrV c N) (funext fun j => ?_)
    by_cases e : j = i
    · subst e
      simp [updV, va_rf]
    · by_cases h : j < i
      · simp [updV, e, h, Nat.lt_succ_of_lt h]
      · simp [updV, e, h, show ¬ j < i + 1 by omega]
def va_AOA (ty : FieldType) (U : State) : Prop := (Cond.arrayOver (.array ty)).before #[] U = true
theorem va_AOA.use {ty : FieldType} {A : Array Value} {U : State} (h : va_AOA ty U) : (Cond.arrayOver (.array ty)).before A U = true := h
section VGM
variable {p : Program} {l : Launch} {e : Env} {R : Room} {s : State} {m : MethodId} {args : Array Value} {below : List Frame} {meth : Method} {c : Code} {H : Heap} {locs : List Loc} {cells slots : Nat} {Q : State → Prop}
variable {cc : ByteArray} {pc : Nat} {ls : Array Slot} {rest : List Value} {D : va_G} {cl : List vw_C} {A : Nat → Prop} {a : Nat} {tys : List (ClassId × FieldType)} {ws : va_W} {H0 : Heap}
theorem va_mna {X : va_W} {L : List Nat} {f : Nat → va_E} {cc : ByteArray} (hexec : p.tables.exec = Jvm.exec) (hb : c.code = cc) {own : String} {index : Nat} {ty : FieldType} {cy : ClassId} (hown : s.vm.findClass own = some m.cls) (hclink : (Cond.classLink own index ("[" ++ (FieldType.array ty).toString)).before args s = true) (hover : va_AOA ty s) (harr : (Cond.arrayClass ty).before args s = true) (hcy : s.vm.findClass (FieldType.array ty).toString = some cy)
    (hK : va_K D cl tys s) (hP : va_P D cl (X ++ va_pl L f) H) (hD : va_D A (X ++ va_pl L f)) (hS : va_S A H0 H locs) (hA : ∀ q, H0.size ≤ q → A q) {n k : Int32} {N' K' : Nat} {z : vp_A} (hn : ¬ n < 0) (hk : ¬ k < 0) (hN : n.toNatClampNeg = N') (hM : k.toNatClampNeg = K')
    (hb1 : N' * 4 ≤ 536870912) (hb2 : K' * componentBytes ty ≤ 536870912) (hb3 : K' ≤ 536870912) (hdf : fits ty (defaultValue ty) = true) (hdd : (defaultValue ty).isDefault = true) (hcells : cells + (1 + N') ≤ R.cells) (hslots : slots + (N' + N' * K') ≤ R.slots) (hz : ∀ c : ClassId, Jvm.Free.Multi.innerC c K' (defaultValue ty) = vp_cell c z) (hdg : decode cc pc = .ok (.multianewarray index 2, 4))
    (kk : ∀ (q : Nat) (r : Nat → Nat) (cA : ClassId) (H1 : Heap), (∀ i j : Nat, i < N' → j < N' → r i = r j → i = j) → (∀ i : Nat, i < N' → r i ∉ L) → va_K D cl (tys ++ [(cA, .array ty)]) s →
      va_P D cl ((X ++ [(q, .inl (cA, N', .inr (.inr (.inr (.inr (fun i => if i < N' then some (r i) else none))))))]) ++ va_pl (L ++ (List.range N').map r) (vr_up f ((List.range N').map r) (.inl (cy, z)))) H1 → va_D A ((X ++ [(q, .inl (cA, N', .inr (.inr (.inr (.inr (fun i => if i < N' then some (r i) else none))))))]) ++ va_pl (L ++ (List.range N').map r) (vr_up f ((List.range N').map r) (.inl (cy, z)))) → va_S A H0 H1 locs →
      W p l e R s m args below meth c H1 locs (cells + 1 + N') (slots + N' + N' * K') Q (F0 m (pc + 4) ls (.ref q :: rest))) : W p l e R s m args below meth c H locs cells slots Q (F0 m pc ls (.int k :: .int n :: rest)) := by
  subst hN
  subst hM
  intro T hT Xs
  obtain ⟨vm₁, cA, comp, -, fA, fC, hO, -, X', step⟩ := Xs.multianewarray2F hexec hown hclink (va_AOA.use hover) harr (g := F0 m pc ls (.int k :: .int n :: rest)) rfl (by rw [hb]; exact hdg) rfl hn hk hb1 hb2 hb3 hdf hdd hcells hslots
  have ec : some cy = some comp := hcy.symm.trans fC
  cases ec
  generalize hF : Jvm.Free.Multi.fill (T.setVm vm₁) cA cy n.toNatClampNeg k.toNatClampNeg (defaultValue ty) n.toNatClampNeg = F at X' step
  have hTh : (T.setVm vm₁).heap = H := hT
  obtain ⟨f1, f2, -, -⟩ := Jvm.Free.Multi.fill_facts (T.setVm vm₁) cA cy n.toNatClampNeg k.toNatClampNeg (defaultValue ty) n.toNatClampNeg
  rw [hF, hTh] at f1 f2
  have hold : ∀ x : Nat, x < H.size → F.heap[x]? = H[x]? := fun x hx => by
    have := Jvm.Free.Multi.fill_old (T.setVm vm₁) cA cy n.toNatClampNeg k.toNatClampNeg (defaultValue ty) (a := x) (by rw [hTh]; exact hx) n.toNatClampNeg
    rw [hF, hTh] at this
    exact this
  have hrow : ∀ j : Nat, j < n.toNatClampNeg → F.heap[H.size + 1 + j]? = some (vp_cell cy z) := fun j hj => by
    have := Jvm.Free.Multi.fill_inner (T.setVm vm₁) cA cy n.toNatClampNeg k.toNatClampNeg (defaultValue ty) n.toNatClampNeg j hj
    rw [hF, hTh, hz] at this
    exact this
  have hout : Jvm.Free.Multi.outerC cA n.toNatClampNeg H.size n.toNatClampNeg = vp_cell cA (n.toNatClampNeg, .inr (.inr (.inr (.inr (fun i => if i < n.toNatClampNeg then some (H.size + 1 + i) else none))))) := by
    rw [vp_cell_q]
    exact vr_outer cA n.toNatClampNeg H.size n.toNatClampNeg
  rw [hout] at f2
  have hlt : ∀ a, a ∈ L → a < H.size := fun a ha => by
    obtain ⟨k9, hk9⟩ := va_pl_get (X := X) (f := f) ha
    exact (hP k9 _ hk9).lt
  have hnl : ∀ i : Nat, i < n.toNatClampNeg → H.size + 1 + i ∉ L := fun i _ h => by
    have := hlt _ h
    omega
  have hnm : ∀ a, a ∈ (List.range n.toNatClampNeg).map (fun i => H.size + 1 + i) → a ∉ L := fun a ha h => by
    obtain ⟨i, -, rfl⟩ := List.mem_map.mp ha
    have := hlt _ h
    omega
  have hP0 : va_P D cl (X ++ va_pl L f) F.heap := hP.kept (fun k9 x hx => hold x.1 ((hP k9 x hx).lt))
  have hP1 : va_P D cl ((X ++ va_pl L f) ++ [(H.size, .inl (cA, n.toNatClampNeg, .inr (.inr (.inr (.inr (fun i => if i < n.toNatClampNeg then some (H.size + 1 + i) else none))))))]) F.heap := hP0.app (fun k9 x hx => by
    have h0 : k9 < 1 := (List.getElem?_eq_some_iff.mp hx).1
    rw [show k9 = 0 by omega] at hx
    cases hx
    exact f2)
  have hP2 : va_P D cl (((X ++ va_pl L f) ++ [(H.size, .inl (cA, n.toNatClampNeg, .inr (.inr (.inr (.inr (fun i => if i < n.toNatClampNeg then some (H.size + 1 + i) else none))))))]) ++ ((List.range n.toNatClampNeg).map (fun i => H.size + 1 + i)).map (fun a => (a, .inl (cy, z)))) F.heap := hP1.app (fun k9 x hx => by
    obtain ⟨a, ha, rfl⟩ := List.mem_map.mp (List.mem_of_getElem? hx)
    obtain ⟨i, hi, rfl⟩ := List.mem_map.mp ha
    exact hrow i (List.mem_range.mp hi))
  have hD2 : va_D A (((X ++ va_pl L f) ++ [(H.size, .inl (cA, n.toNatClampNeg, .inr (.inr (.inr (.inr (fun i => if i < n.toNatClampNeg then some (H.size + 1 + i) else none))))))]) ++ ((List.range n.toNatClampNeg).map (fun i => H.size + 1 + i)).map (fun a => (a, .inl (cy, z)))) := by
    have hD1 := hD.push (e := .inl (cA, n.toNatClampNeg, .inr (.inr (.inr (.inr (fun i => if i < n.toNatClampNeg then some (H.size + 1 + i) else none)))))) hP rfl (hA _ hS.1)
    generalize hW1 : (X ++ va_pl L f) ++ [(H.size, .inl (cA, n.toNatClampNeg, .inr (.inr (.inr (.inr (fun i => if i < n.toNatClampNeg then some (H.size + 1 + i) else none))))))] = W1 at hD1 hP1 ⊢
    have hle : ∀ (k9 : Nat) (x : Nat × va_E), W1[k9]? = some x → x.1 ≤ H.size := fun k9 x hx => by
      rw [← hW1] at hx
      by_cases hl : k9 < (X ++ va_pl L f).length
      · rw [List.getElem?_append_left hl] at hx
        exact Nat.le_of_lt ((hP k9 x hx).lt)
      · rw [List.getElem?_append_right (by omega)] at hx
        have h0 : k9 - (X ++ va_pl L f).length < 1 := (List.getElem?_eq_some_iff.mp hx).1
        rw [show k9 - (X ++ va_pl L f).length = 0 by omega] at hx
        cases hx
        exact Nat.le_refl _
    have hr : ∀ (k9 : Nat) (x : Nat × va_E), (((List.range n.toNatClampNeg).map (fun i => H.size + 1 + i)).map (fun a => ((a, .inl (cy, z)) : Nat × va_E)))[k9]? = some x → x.1 = H.size + 1 + k9 := fun k9 x hx => by
      rw [List.getElem?_map, List.getElem?_map] at hx
      by_cases h9 : k9 < n.toNatClampNeg
      · rw [List.getElem?_range h9] at hx
        cases hx
        rfl
      · have hn0 : (List.range n.toNatClampNeg)[k9]? = none := List.getElem?_eq_none (by rw [List.length_range]; omega)
        rw [hn0] at hx
        cases hx
    refine ⟨fun i j x y hi hj hxy => ?_, fun k9 x hx => ?_⟩
    · by_cases h1 : i < W1.length <;> by_cases h2 : j < W1.length
      · rw [List.getElem?_append_left h1] at hi
        rw [List.getElem?_append_left h2] at hj
        exact hD1.1 i j x y hi hj hxy
      · rw [List.getElem?_append_left h1] at hi
        rw [List.getElem?_append_right (by omega)] at hj
        have := hle _ _ hi
        have := hr _ _ hj
        omega
      · rw [List.getElem?_append_right (by omega)] at hi
        rw [List.getElem?_append_left h2] at hj
        have := hle _ _ hj
        have := hr _ _ hi
        omega
      · rw [List.getElem?_append_right (by omega)] at hi hj
        have := hr _ _ hi
        have := hr _ _ hj
        omega
    · by_cases h1 : k9 < W1.length
      · rw [List.getElem?_append_left h1] at hx
        exact hD1.2 k9 x hx
      · rw [List.getElem?_append_right (by omega)] at hx
        have := hr _ _ hx
        exact hA _ (by have := hS.1; omega)
  have hAr : ArrOfT s cA (.array ty) := fun N9 z9 => by
    obtain ⟨-, k9, hk9, cm9, hkk9⟩ := (hO 0 0 0).1
    exact ⟨(fun q hq => by cases hq), k9, hk9, cm9, hkk9⟩
  have hK2 : va_K D cl (tys ++ [(cA, .array ty)]) s := ⟨hK.1, fun k9 x hx => by
    by_cases hl : k9 < tys.length
    · rw [List.getElem?_append_left hl] at hx
      exact hK.2 k9 x hx
    · rw [List.getElem?_append_right (by omega)] at hx
      have h0 : k9 - tys.length < 1 := (List.getElem?_eq_some_iff.mp hx).1
      rw [show k9 - tys.length = 0 by omega] at hx
      cases hx
      exact ⟨hAr, fA⟩⟩
  obtain ⟨t, a1, b1⟩ := kk H.size (fun i => H.size + 1 + i) cA F.heap (fun i j _ _ h => by have h9 : H.size + 1 + i = H.size + 1 + j := h; omega) hnl hK2 (by rw [← vr_rows hnm]; exact vr_lay hP2) (by rw [← vr_rows hnm]; exact vr_layD hD2) ⟨by rw [f1]; have := hS.1; omega, fun x h1 h2 => (hold x (Nat.lt_of_lt_of_le h1 hS.1)).trans (hS.2.1 x h1 h2), hS.2.2⟩ F rfl X'
  refine ⟨t, step t ?_, b1⟩
  have e : T.heap.size = H.size := by rw [hT]
  rw [e]
  exact a1
end VGM
def RX0 : String := "GrowingUrns$After"
def TX0 : u_T := fun k => match k with
  | 0 => ("GrowingUrns$After", "now", "[J", false)
  | 1 => ("GrowingUrns$After", "next", "[J", false)
  | 2 => ("GrowingUrns$After", "only", "[I", true)
  | 3 => ("GrowingUrns$After", "often", "[I", true)
  | 4 => ("GrowingUrns$After", "balls", "[I", true)
  | 5 => ("GrowingUrns$After", "byTimes", "[J", true)
  | 6 => ("GrowingUrns$After", "byBalls", "[J", true)
  | 7 => ("GrowingUrns$After", "ended", "J", false)
  | 8 => ("GrowingUrns$After", "below", "J", false)
  | 9 => ("GrowingUrns$After", "meanWhole", "J", false)
  | _ => ("GrowingUrns$After", "meanRest", "J", false)
def tyX0 : Nat → FieldType := fun k => match k with
  | 0 => .array .long
  | 1 => .array .long
  | 2 => .array .int
  | 3 => .array .int
  | 4 => .array .int
  | 5 => .array .long
  | 6 => .array .long
  | 7 => .long
  | 8 => .long
  | 9 => .long
  | _ => .long
abbrev wsX00 : List Cond := u_ws RX0 TX0 11
theorem nmX0 : ∀ a, a < 11 → ∀ b, b < 11 → a ≠ b → (TX0 a).2.1 ≠ (TX0 b).2.1 := by decide +kernel
theorem tyX0_ok : ∀ k, k < 11 → parseFieldDescriptor (TX0 k).2.2.1 = some (tyX0 k) := by decide +kernel
abbrev cX0_init : ByteArray := prog_2_method_1_code
def yX0_init : MethodName := ⟨RX0, "<init>", "()V"⟩
abbrev cX0_letAny : ByteArray := prog_2_method_2_code
def yX0_letAny : MethodName := ⟨RX0, "letAny", "()V"⟩
abbrev cX0_letOnly : ByteArray := prog_2_method_3_code
def yX0_letOnly : MethodName := ⟨RX0, "letOnly", "(II)V"⟩
abbrev cX0_findBelow : ByteArray := prog_2_method_4_code
def yX0_findBelow : MethodName := ⟨RX0, "findBelow", "(LGrowingUrns$Urn;I)Z"⟩
abbrev cX0_factorAt : ByteArray := prog_2_method_5_code
def yX0_factorAt : MethodName := ⟨RX0, "factorAt", "(LGrowingUrns$Urn;I)J"⟩
abbrev cX0_countRows : ByteArray := prog_2_method_6_code
def yX0_countRows : MethodName := ⟨RX0, "countRows", "(LGrowingUrns$Urn;I)J"⟩
abbrev cX0_weigh : ByteArray := prog_2_method_7_code
def yX0_weigh : MethodName := ⟨RX0, "weigh", "(LGrowingUrns$Urn;II)V"⟩
abbrev cX0_through : ByteArray := prog_2_method_8_code
def yX0_through : MethodName := ⟨RX0, "through", "()J"⟩
abbrev cX0_findMean : ByteArray := prog_2_method_9_code
def yX0_findMean : MethodName := ⟨RX0, "findMean", "(I)V"⟩
abbrev cX0_walk : ByteArray := prog_2_method_10_code
def yX0_walk : MethodName := ⟨RX0, "walk", "(LGrowingUrns$Urn;IIZ)V"⟩
abbrev cX0_walkStep : ByteArray := prog_2_method_11_code
def yX0_walkStep : MethodName := ⟨RX0, "walkStep", "(LGrowingUrns$Urn;IIIZ)V"⟩
abbrev cX0_settle : ByteArray := prog_2_method_12_code
def yX0_settle : MethodName := ⟨RX0, "settle", "(JII)V"⟩
abbrev cX0_findBalls : ByteArray := prog_2_method_13_code
def yX0_findBalls : MethodName := ⟨RX0, "findBalls", "(LGrowingUrns$Urn;)V"⟩
abbrev cX0_spread : ByteArray := prog_2_method_14_code
def yX0_spread : MethodName := ⟨RX0, "spread", "(LGrowingUrns$Urn;IJIZ)V"⟩
def RX1 : String := "GrowingUrns$Fraction"
def TX1 : u_T := fun k => match k with
  | 0 => ("GrowingUrns$Fraction", "whole", "J", false)
  | 1 => ("GrowingUrns$Fraction", "above", "J", false)
  | _ => ("GrowingUrns$Fraction", "below", "J", false)
def tyX1 : Nat → FieldType := fun k => match k with
  | 0 => .long
  | 1 => .long
  | _ => .long
abbrev wsX10 : List Cond := u_ws RX1 TX1 3
theorem nmX1 : ∀ a, a < 3 → ∀ b, b < 3 → a ≠ b → (TX1 a).2.1 ≠ (TX1 b).2.1 := by decide +kernel
theorem tyX1_ok : ∀ k, k < 3 → parseFieldDescriptor (TX1 k).2.2.1 = some (tyX1 k) := by decide +kernel
abbrev cX1_init : ByteArray := prog_3_method_1_code
def yX1_init : MethodName := ⟨RX1, "<init>", "()V"⟩
abbrev cX1_become : ByteArray := prog_3_method_2_code
def yX1_become : MethodName := ⟨RX1, "become", "(JJJ)V"⟩
def RX2 : String := "GrowingUrns$Kept"
def TX2 : u_T := fun k => match k with
  | 0 => ("GrowingUrns$Kept", "rows", "[[I", true)
  | 1 => ("GrowingUrns$Kept", "length", "I", false)
  | _ => ("GrowingUrns$Kept", "next", "I", false)
def tyX2 : Nat → FieldType := fun k => match k with
  | 0 => .array (.array .int)
  | 1 => .int
  | _ => .int
abbrev wsX20 : List Cond := u_ws RX2 TX2 3
theorem nmX2 : ∀ a, a < 3 → ∀ b, b < 3 → a ≠ b → (TX2 a).2.1 ≠ (TX2 b).2.1 := by decide +kernel
theorem tyX2_ok : ∀ k, k < 3 → parseFieldDescriptor (TX2 k).2.2.1 = some (tyX2 k) := by decide +kernel
abbrev cX2_init : ByteArray := prog_4_method_1_code
def yX2_init : MethodName := ⟨RX2, "<init>", "()V"⟩
abbrev cX2_nextRow : ByteArray := prog_4_method_2_code
def yX2_nextRow : MethodName := ⟨RX2, "nextRow", "()[I"⟩
abbrev cX2_takeLatest : ByteArray := prog_4_method_3_code
def yX2_takeLatest : MethodName := ⟨RX2, "takeLatest", "()[I"⟩
def RX3 : String := "GrowingUrns$Orders"
def TX3 : u_T := fun k => match k with
  | 0 => ("GrowingUrns$Orders", "aboves", "[J", true)
  | _ => ("GrowingUrns$Orders", "belows", "[J", true)
def tyX3 : Nat → FieldType := fun k => match k with
  | 0 => .array .long
  | _ => .array .long
abbrev wsX30 : List Cond := u_ws RX3 TX3 2
theorem nmX3 : ∀ a, a < 2 → ∀ b, b < 2 → a ≠ b → (TX3 a).2.1 ≠ (TX3 b).2.1 := by decide +kernel
theorem tyX3_ok : ∀ k, k < 2 → parseFieldDescriptor (TX3 k).2.2.1 = some (tyX3 k) := by decide +kernel
abbrev cX3_init : ByteArray := prog_5_method_1_code
def yX3_init : MethodName := ⟨RX3, "<init>", "()V"⟩
abbrev cX3_areAlike : ByteArray := prog_5_method_2_code
def yX3_areAlike : MethodName := ⟨RX3, "areAlike", "(LGrowingUrns$Urn;ILGrowingUrns$Row;)Z"⟩
abbrev cX3_placeOf : ByteArray := prog_5_method_3_code
def yX3_placeOf : MethodName := ⟨RX3, "placeOf", "(II)I"⟩
abbrev cX3_isAsAhead : ByteArray := prog_5_method_4_code
def yX3_isAsAhead : MethodName := ⟨RX3, "isAsAhead", "(ILGrowingUrns$Row;)Z"⟩
def RX4 : String := "GrowingUrns$Path"
def TX4 : u_T := fun k => match k with
  | 0 => ("GrowingUrns$Path", "urns", "[I", true)
  | 1 => ("GrowingUrns$Path", "colours", "[I", true)
  | 2 => ("GrowingUrns$Path", "length", "I", false)
  | _ => ("GrowingUrns$Path", "seed", "J", false)
def tyX4 : Nat → FieldType := fun k => match k with
  | 0 => .array .int
  | 1 => .array .int
  | 2 => .int
  | _ => .long
abbrev wsX40 : List Cond := u_ws RX4 TX4 4
theorem nmX4 : ∀ a, a < 4 → ∀ b, b < 4 → a ≠ b → (TX4 a).2.1 ≠ (TX4 b).2.1 := by decide +kernel
theorem tyX4_ok : ∀ k, k < 4 → parseFieldDescriptor (TX4 k).2.2.1 = some (tyX4 k) := by decide +kernel
abbrev cX4_init : ByteArray := prog_6_method_1_code
def yX4_init : MethodName := ⟨RX4, "<init>", "()V"⟩
def RX5 : String := "GrowingUrns$Row"
def TX5 : u_T := fun k => match k with
  | 0 => ("GrowingUrns$Row", "balls", "[I", true)
  | 1 => ("GrowingUrns$Row", "above", "J", false)
  | _ => ("GrowingUrns$Row", "below", "J", false)
def tyX5 : Nat → FieldType := fun k => match k with
  | 0 => .array .int
  | 1 => .long
  | _ => .long
abbrev wsX50 : List Cond := u_ws RX5 TX5 3
theorem nmX5 : ∀ a, a < 3 → ∀ b, b < 3 → a ≠ b → (TX5 a).2.1 ≠ (TX5 b).2.1 := by decide +kernel
theorem tyX5_ok : ∀ k, k < 3 → parseFieldDescriptor (TX5 k).2.2.1 = some (tyX5 k) := by decide +kernel
abbrev cX5_init : ByteArray := prog_7_method_1_code
def yX5_init : MethodName := ⟨RX5, "<init>", "()V"⟩
abbrev cX5_follow : ByteArray := prog_7_method_2_code
def yX5_follow : MethodName := ⟨RX5, "follow", "(LGrowingUrns$Urn;II)Z"⟩
abbrev cX5_comeTimes : ByteArray := prog_7_method_3_code
def yX5_comeTimes : MethodName := ⟨RX5, "comeTimes", "(II)Z"⟩
def RX6 : String := "GrowingUrns$Sheet"
def TX6 : u_T := fun k => match k with
  | 0 => ("GrowingUrns$Sheet", "places", "[J", true)
  | 1 => ("GrowingUrns$Sheet", "kind", "I", false)
  | _ => ("GrowingUrns$Sheet", "length", "I", false)
def tyX6 : Nat → FieldType := fun k => match k with
  | 0 => .array .long
  | 1 => .int
  | _ => .int
abbrev wsX60 : List Cond := u_ws RX6 TX6 3
theorem nmX6 : ∀ a, a < 3 → ∀ b, b < 3 → a ≠ b → (TX6 a).2.1 ≠ (TX6 b).2.1 := by decide +kernel
theorem tyX6_ok : ∀ k, k < 3 → parseFieldDescriptor (TX6 k).2.2.1 = some (tyX6 k) := by decide +kernel
abbrev cX6_init : ByteArray := prog_8_method_1_code
def yX6_init : MethodName := ⟨RX6, "<init>", "()V"⟩
abbrev cX6_become : ByteArray := prog_8_method_2_code
def yX6_become : MethodName := ⟨RX6, "become", "(II)V"⟩
abbrev cX6_reaches : ByteArray := prog_8_method_3_code
def yX6_reaches : MethodName := ⟨RX6, "reaches", "(II)Z"⟩
abbrev cX6_cut : ByteArray := prog_8_method_4_code
def yX6_cut : MethodName := ⟨RX6, "cut", "(J)J"⟩
abbrev cX6_liesWithin : ByteArray := prog_8_method_5_code
def yX6_liesWithin : MethodName := ⟨RX6, "liesWithin", "(IIII)Z"⟩
def RX7 : String := "GrowingUrns$Urn"
def TX7 : u_T := fun k => match k with
  | 0 => ("GrowingUrns$Urn", "balls", "[I", true)
  | 1 => ("GrowingUrns$Urn", "table", "[I", true)
  | 2 => ("GrowingUrns$Urn", "under", "[I", true)
  | 3 => ("GrowingUrns$Urn", "colours", "I", false)
  | _ => ("GrowingUrns$Urn", "draws", "I", false)
def tyX7 : Nat → FieldType := fun k => match k with
  | 0 => .array .int
  | 1 => .array .int
  | 2 => .array .int
  | 3 => .int
  | _ => .int
abbrev wsX70 : List Cond := u_ws RX7 TX7 5
theorem nmX7 : ∀ a, a < 5 → ∀ b, b < 5 → a ≠ b → (TX7 a).2.1 ≠ (TX7 b).2.1 := by decide +kernel
theorem tyX7_ok : ∀ k, k < 5 → parseFieldDescriptor (TX7 k).2.2.1 = some (tyX7 k) := by decide +kernel
abbrev cX7_init : ByteArray := prog_9_method_1_code
def yX7_init : MethodName := ⟨RX7, "<init>", "()V"⟩
abbrev cX7_has : ByteArray := prog_9_method_2_code
def yX7_has : MethodName := ⟨RX7, "has", "(I)Z"⟩
abbrev cX7_hasAll : ByteArray := prog_9_method_3_code
def yX7_hasAll : MethodName := ⟨RX7, "hasAll", "(II)Z"⟩
abbrev cX7_total : ByteArray := prog_9_method_4_code
def yX7_total : MethodName := ⟨RX7, "total", "()I"⟩
abbrev cX7_growth : ByteArray := prog_9_method_5_code
def yX7_growth : MethodName := ⟨RX7, "growth", "(I)I"⟩
abbrev cX7_isEven : ByteArray := prog_9_method_6_code
def yX7_isEven : MethodName := ⟨RX7, "isEven", "()Z"⟩
abbrev cX7_isLike : ByteArray := prog_9_method_7_code
def yX7_isLike : MethodName := ⟨RX7, "isLike", "()Z"⟩
abbrev cX7_lets : ByteArray := prog_9_method_8_code
def yX7_lets : MethodName := ⟨RX7, "lets", "([II)Z"⟩
abbrev cX7_grow : ByteArray := prog_9_method_9_code
def yX7_grow : MethodName := ⟨RX7, "grow", "([II)V"⟩
abbrev cX7_doDraw : ByteArray := prog_9_method_10_code
def yX7_doDraw : MethodName := ⟨RX7, "doDraw", "(I)V"⟩
abbrev cX7_colourOf : ByteArray := prog_9_method_11_code
def yX7_colourOf : MethodName := ⟨RX7, "colourOf", "(I)I"⟩
abbrev cX7_goInto : ByteArray := prog_9_method_12_code
def yX7_goInto : MethodName := ⟨RX7, "goInto", "([II)V"⟩
abbrev cX7_comeFrom : ByteArray := prog_9_method_13_code
def yX7_comeFrom : MethodName := ⟨RX7, "comeFrom", "([II)V"⟩
def RX8 : String := "GrowingUrns"
def TX8 : u_T := fun k => match k with
  | 0 => ("GrowingUrns", "sheets", "[LGrowingUrns$Sheet;", true)
  | 1 => ("GrowingUrns", "urns", "[LGrowingUrns$Urn;", true)
  | 2 => ("GrowingUrns", "kept", "LGrowingUrns$Kept;", true)
  | 3 => ("GrowingUrns", "path", "LGrowingUrns$Path;", true)
  | 4 => ("GrowingUrns", "tried", "LGrowingUrns$Row;", true)
  | 5 => ("GrowingUrns", "orders", "LGrowingUrns$Orders;", true)
  | 6 => ("GrowingUrns", "after", "LGrowingUrns$After;", true)
  | 7 => ("GrowingUrns", "fraction", "LGrowingUrns$Fraction;", true)
  | 8 => ("GrowingUrns", "made", "I", false)
  | _ => ("GrowingUrns", "seed", "I", false)
def tyX8 : Nat → FieldType := fun k => match k with
  | 0 => .array (.object "GrowingUrns$Sheet")
  | 1 => .array (.object "GrowingUrns$Urn")
  | 2 => .object "GrowingUrns$Kept"
  | 3 => .object "GrowingUrns$Path"
  | 4 => .object "GrowingUrns$Row"
  | 5 => .object "GrowingUrns$Orders"
  | 6 => .object "GrowingUrns$After"
  | 7 => .object "GrowingUrns$Fraction"
  | 8 => .int
  | _ => .int
abbrev wsX80 : List Cond := u_ws RX8 TX8 10
theorem nmX8 : ∀ a, a < 10 → ∀ b, b < 10 → a ≠ b → (TX8 a).2.1 ≠ (TX8 b).2.1 := by decide +kernel
theorem tyX8_ok : ∀ k, k < 10 → parseFieldDescriptor (TX8 k).2.2.1 = some (tyX8 k) := by decide +kernel
abbrev cX8_init : ByteArray := prog_1_method_1_code
def yX8_init : MethodName := ⟨RX8, "<init>", "()V"⟩
abbrev cX8_sheet : ByteArray := prog_1_method_2_code
def yX8_sheet : MethodName := ⟨RX8, "sheet", "(III)I"⟩
abbrev cX8_lay : ByteArray := prog_1_method_3_code
def yX8_lay : MethodName := ⟨RX8, "lay", "(IIJ)I"⟩
abbrev cX8_copy : ByteArray := prog_1_method_4_code
def yX8_copy : MethodName := ⟨RX8, "copy", "(IIIII)I"⟩
abbrev cX8_holds : ByteArray := prog_1_method_5_code
def yX8_holds : MethodName := ⟨RX8, "holds", "(IIJ)I"⟩
abbrev cX8_read : ByteArray := prog_1_method_6_code
def yX8_read : MethodName := ⟨RX8, "read", "(IIIII)I"⟩
abbrev cX8_urn : ByteArray := prog_1_method_7_code
def yX8_urn : MethodName := ⟨RX8, "urn", "(I)I"⟩
abbrev cX8_put : ByteArray := prog_1_method_8_code
def yX8_put : MethodName := ⟨RX8, "put", "(III)I"⟩
abbrev cX8_add : ByteArray := prog_1_method_9_code
def yX8_add : MethodName := ⟨RX8, "add", "(IIII)I"⟩
abbrev cX8_is : ByteArray := prog_1_method_10_code
def yX8_is : MethodName := ⟨RX8, "is", "(III)I"⟩
abbrev cX8_about : ByteArray := prog_1_method_11_code
def yX8_about : MethodName := ⟨RX8, "about", "(II)I"⟩
abbrev cX8_added : ByteArray := prog_1_method_12_code
def yX8_added : MethodName := ⟨RX8, "added", "(III)I"⟩
abbrev cX8_draw : ByteArray := prog_1_method_13_code
def yX8_draw : MethodName := ⟨RX8, "draw", "(II)I"⟩
abbrev cX8_seed : ByteArray := prog_1_method_14_code
def yX8_seed : MethodName := ⟨RX8, "seed", "(I)I"⟩
abbrev cX8_drawn : ByteArray := prog_1_method_15_code
def yX8_drawn : MethodName := ⟨RX8, "drawn", "(I)I"⟩
abbrev cX8_shake : ByteArray := prog_1_method_16_code
def yX8_shake : MethodName := ⟨RX8, "shake", "(II)I"⟩
abbrev cX8_undo : ByteArray := prog_1_method_17_code
def yX8_undo : MethodName := ⟨RX8, "undo", "()I"⟩
abbrev cX8_chance : ByteArray := prog_1_method_18_code
def yX8_chance : MethodName := ⟨RX8, "chance", "(III)I"⟩
abbrev cX8_times : ByteArray := prog_1_method_19_code
def yX8_times : MethodName := ⟨RX8, "times", "(IIII)I"⟩
abbrev cX8_left : ByteArray := prog_1_method_20_code
def yX8_left : MethodName := ⟨RX8, "left", "(IIII)I"⟩
abbrev cX8_stuck : ByteArray := prog_1_method_21_code
def yX8_stuck : MethodName := ⟨RX8, "stuck", "(II)I"⟩
abbrev cX8_mean : ByteArray := prog_1_method_22_code
def yX8_mean : MethodName := ⟨RX8, "mean", "(IIII)I"⟩
abbrev cX8_told : ByteArray := prog_1_method_23_code
def yX8_told : MethodName := ⟨RX8, "told", "(IIIII)I"⟩
abbrev cX8_share : ByteArray := prog_1_method_24_code
def yX8_share : MethodName := ⟨RX8, "share", "(III)I"⟩
abbrev cX8_free : ByteArray := prog_1_method_25_code
def yX8_free : MethodName := ⟨RX8, "free", "(II)I"⟩
abbrev cX8_part : ByteArray := prog_1_method_26_code
def yX8_part : MethodName := ⟨RX8, "part", "(I)J"⟩
abbrev cX8_count : ByteArray := prog_1_method_27_code
def yX8_count : MethodName := ⟨RX8, "count", "(I)I"⟩
abbrev cX8_sheetAt : ByteArray := prog_1_method_28_code
def yX8_sheetAt : MethodName := ⟨RX8, "sheetAt", "(I)LGrowingUrns$Sheet;"⟩
abbrev cX8_urnAt : ByteArray := prog_1_method_29_code
def yX8_urnAt : MethodName := ⟨RX8, "urnAt", "(I)LGrowingUrns$Urn;"⟩
abbrev cX8_areDraws : ByteArray := prog_1_method_30_code
def yX8_areDraws : MethodName := ⟨RX8, "areDraws", "(I)Z"⟩
abbrev cX8_drawsInAll : ByteArray := prog_1_method_31_code
def yX8_drawsInAll : MethodName := ⟨RX8, "drawsInAll", "()I"⟩
abbrev cX8_keepAct : ByteArray := prog_1_method_32_code
def yX8_keepAct : MethodName := ⟨RX8, "keepAct", "()V"⟩
abbrev cX8_findPath : ByteArray := prog_1_method_33_code
def yX8_findPath : MethodName := ⟨RX8, "findPath", "(I)Z"⟩
abbrev cX8_goPath : ByteArray := prog_1_method_34_code
def yX8_goPath : MethodName := ⟨RX8, "goPath", "()V"⟩
abbrev cX8_weighRows : ByteArray := prog_1_method_35_code
def yX8_weighRows : MethodName := ⟨RX8, "weighRows", "(LGrowingUrns$Urn;II)I"⟩
abbrev cX8_common : ByteArray := prog_1_method_36_code
def yX8_common : MethodName := ⟨RX8, "common", "(JJ)J"⟩
def RX9 : String := "GrowingUrnsModel"
def TX9 : u_T := fun k => match k with
  | 0 => ("GrowingUrnsModel", "sheetKind", "[I", true)
  | 1 => ("GrowingUrnsModel", "sheetSize", "[I", true)
  | 2 => ("GrowingUrnsModel", "sheet", "[J", true)
  | 3 => ("GrowingUrnsModel", "spare", "[J", true)
  | 4 => ("GrowingUrnsModel", "urns", "I", false)
  | 5 => ("GrowingUrnsModel", "colours", "[I", true)
  | 6 => ("GrowingUrnsModel", "st", "[I", true)
  | 7 => ("GrowingUrnsModel", "kept", "[I", true)
  | 8 => ("GrowingUrnsModel", "keptMany", "I", false)
  | 9 => ("GrowingUrnsModel", "whole", "J", false)
  | 10 => ("GrowingUrnsModel", "up", "J", false)
  | 11 => ("GrowingUrnsModel", "down", "J", false)
  | 12 => ("GrowingUrnsModel", "steps", "I", false)
  | 13 => ("GrowingUrnsModel", "stepUrn", "[I", true)
  | 14 => ("GrowingUrnsModel", "stepColour", "[I", true)
  | 15 => ("GrowingUrnsModel", "seedThen", "I", false)
  | 16 => ("GrowingUrnsModel", "now", "[I", true)
  | 17 => ("GrowingUrnsModel", "rowUp", "J", false)
  | 18 => ("GrowingUrnsModel", "rowDown", "J", false)
  | 19 => ("GrowingUrnsModel", "weights", "[J", true)
  | 20 => ("GrowingUrnsModel", "deep", "J", false)
  | 21 => ("GrowingUrnsModel", "stuckAbove", "J", false)
  | 22 => ("GrowingUrnsModel", "drawn", "[I", true)
  | 23 => ("GrowingUrnsModel", "there", "[I", true)
  | 24 => ("GrowingUrnsModel", "firstUp", "[J", true)
  | _ => ("GrowingUrnsModel", "firstDown", "[J", true)
def tyX9 : Nat → FieldType := fun k => match k with
  | 0 => .array .int
  | 1 => .array .int
  | 2 => .array .long
  | 3 => .array .long
  | 4 => .int
  | 5 => .array .int
  | 6 => .array .int
  | 7 => .array .int
  | 8 => .int
  | 9 => .long
  | 10 => .long
  | 11 => .long
  | 12 => .int
  | 13 => .array .int
  | 14 => .array .int
  | 15 => .int
  | 16 => .array .int
  | 17 => .long
  | 18 => .long
  | 19 => .array .long
  | 20 => .long
  | 21 => .long
  | 22 => .array .int
  | 23 => .array .int
  | 24 => .array .long
  | _ => .array .long
abbrev wsX90 : List Cond := u_ws RX9 TX9 26
theorem nmX9 : ∀ a, a < 26 → ∀ b, b < 26 → a ≠ b → (TX9 a).2.1 ≠ (TX9 b).2.1 := by decide +kernel
theorem tyX9_ok : ∀ k, k < 26 → parseFieldDescriptor (TX9 k).2.2.1 = some (tyX9 k) := by decide +kernel
abbrev cX9_init : ByteArray := prog_11_method_1_code
def yX9_init : MethodName := ⟨RX9, "<init>", "()V"⟩
abbrev cX9_in : ByteArray := prog_11_method_2_code
def yX9_in : MethodName := ⟨RX9, "in", "(JJJ)Z"⟩
abbrev cX9_isSheet : ByteArray := prog_11_method_3_code
def yX9_isSheet : MethodName := ⟨RX9, "isSheet", "(I)Z"⟩
abbrev cX9_cut : ByteArray := prog_11_method_4_code
def yX9_cut : MethodName := ⟨RX9, "cut", "(IJ)J"⟩
abbrev cX9_sheet : ByteArray := prog_11_method_5_code
def yX9_sheet : MethodName := ⟨RX9, "sheet", "(III)I"⟩
abbrev cX9_placed : ByteArray := prog_11_method_6_code
def yX9_placed : MethodName := ⟨RX9, "placed", "(II)I"⟩
abbrev cX9_lay : ByteArray := prog_11_method_7_code
def yX9_lay : MethodName := ⟨RX9, "lay", "(IIJ)I"⟩
abbrev cX9_copy : ByteArray := prog_11_method_8_code
def yX9_copy : MethodName := ⟨RX9, "copy", "(IIIII)I"⟩
abbrev cX9_holds : ByteArray := prog_11_method_9_code
def yX9_holds : MethodName := ⟨RX9, "holds", "(IIJ)I"⟩
abbrev cX9_isUrn : ByteArray := prog_11_method_10_code
def yX9_isUrn : MethodName := ⟨RX9, "isUrn", "(I)Z"⟩
abbrev cX9_isColour : ByteArray := prog_11_method_11_code
def yX9_isColour : MethodName := ⟨RX9, "isColour", "(II)Z"⟩
abbrev cX9_keep : ByteArray := prog_11_method_12_code
def yX9_keep : MethodName := ⟨RX9, "keep", "()V"⟩
abbrev cX9_read : ByteArray := prog_11_method_13_code
def yX9_read : MethodName := ⟨RX9, "read", "(IIIII)I"⟩
abbrev cX9_urn : ByteArray := prog_11_method_14_code
def yX9_urn : MethodName := ⟨RX9, "urn", "(I)I"⟩
abbrev cX9_put : ByteArray := prog_11_method_15_code
def yX9_put : MethodName := ⟨RX9, "put", "(III)I"⟩
abbrev cX9_add : ByteArray := prog_11_method_16_code
def yX9_add : MethodName := ⟨RX9, "add", "(IIII)I"⟩
abbrev cX9_is : ByteArray := prog_11_method_17_code
def yX9_is : MethodName := ⟨RX9, "is", "(III)I"⟩
abbrev cX9_balls : ByteArray := prog_11_method_18_code
def yX9_balls : MethodName := ⟨RX9, "balls", "(I)I"⟩
abbrev cX9_addedSum : ByteArray := prog_11_method_19_code
def yX9_addedSum : MethodName := ⟨RX9, "addedSum", "(II)I"⟩
abbrev cX9_isEven : ByteArray := prog_11_method_20_code
def yX9_isEven : MethodName := ⟨RX9, "isEven", "(I)Z"⟩
abbrev cX9_isLike : ByteArray := prog_11_method_21_code
def yX9_isLike : MethodName := ⟨RX9, "isLike", "(I)Z"⟩
abbrev cX9_about : ByteArray := prog_11_method_22_code
def yX9_about : MethodName := ⟨RX9, "about", "(II)I"⟩
abbrev cX9_added : ByteArray := prog_11_method_23_code
def yX9_added : MethodName := ⟨RX9, "added", "(III)I"⟩
abbrev cX9_canDraw : ByteArray := prog_11_method_24_code
def yX9_canDraw : MethodName := ⟨RX9, "canDraw", "(II)Z"⟩
abbrev cX9_draws : ByteArray := prog_11_method_25_code
def yX9_draws : MethodName := ⟨RX9, "draws", "(II)V"⟩
abbrev cX9_draw : ByteArray := prog_11_method_26_code
def yX9_draw : MethodName := ⟨RX9, "draw", "(II)I"⟩
abbrev cX9_seed : ByteArray := prog_11_method_27_code
def yX9_seed : MethodName := ⟨RX9, "seed", "(I)I"⟩
abbrev cX9_looks : ByteArray := prog_11_method_28_code
def yX9_looks : MethodName := ⟨RX9, "looks", "(I)Z"⟩
abbrev cX9_doesDraws : ByteArray := prog_11_method_29_code
def yX9_doesDraws : MethodName := ⟨RX9, "doesDraws", "()I"⟩
abbrev cX9_drawn : ByteArray := prog_11_method_30_code
def yX9_drawn : MethodName := ⟨RX9, "drawn", "(I)I"⟩
abbrev cX9_shake : ByteArray := prog_11_method_31_code
def yX9_shake : MethodName := ⟨RX9, "shake", "(II)I"⟩
abbrev cX9_undo : ByteArray := prog_11_method_32_code
def yX9_undo : MethodName := ⟨RX9, "undo", "()I"⟩
abbrev cX9_common : ByteArray := prog_11_method_33_code
def yX9_common : MethodName := ⟨RX9, "common", "(JJ)J"⟩
abbrev cX9_tells : ByteArray := prog_11_method_34_code
def yX9_tells : MethodName := ⟨RX9, "tells", "(JJ)I"⟩
abbrev cX9_part : ByteArray := prog_11_method_35_code
def yX9_part : MethodName := ⟨RX9, "part", "(I)J"⟩
abbrev cX9_follows : ByteArray := prog_11_method_36_code
def yX9_follows : MethodName := ⟨RX9, "follows", "(III)Z"⟩
abbrev cX9_chance : ByteArray := prog_11_method_37_code
def yX9_chance : MethodName := ⟨RX9, "chance", "(III)I"⟩
abbrev cX9_evenFault : ByteArray := prog_11_method_38_code
def yX9_evenFault : MethodName := ⟨RX9, "evenFault", "(II)I"⟩
abbrev cX9_looksAt : ByteArray := prog_11_method_39_code
def yX9_looksAt : MethodName := ⟨RX9, "looksAt", "(III)V"⟩
abbrev cX9_more : ByteArray := prog_11_method_40_code
def yX9_more : MethodName := ⟨RX9, "more", "(II)I"⟩
abbrev cX9_at : ByteArray := prog_11_method_41_code
def yX9_at : MethodName := ⟨RX9, "at", "(II)I"⟩
abbrev cX9_goes : ByteArray := prog_11_method_42_code
def yX9_goes : MethodName := ⟨RX9, "goes", "(IIIIII)V"⟩
abbrev cX9_spreads : ByteArray := prog_11_method_43_code
def yX9_spreads : MethodName := ⟨RX9, "spreads", "(IIIJJII)V"⟩
abbrev cX9_isAsked : ByteArray := prog_11_method_44_code
def yX9_isAsked : MethodName := ⟨RX9, "isAsked", "(II)Z"⟩
abbrev cX9_times : ByteArray := prog_11_method_45_code
def yX9_times : MethodName := ⟨RX9, "times", "(IIII)I"⟩
abbrev cX9_left : ByteArray := prog_11_method_46_code
def yX9_left : MethodName := ⟨RX9, "left", "(IIII)I"⟩
abbrev cX9_stuck : ByteArray := prog_11_method_47_code
def yX9_stuck : MethodName := ⟨RX9, "stuck", "(II)I"⟩
abbrev cX9_mean : ByteArray := prog_11_method_48_code
def yX9_mean : MethodName := ⟨RX9, "mean", "(IIII)I"⟩
abbrev cX9_told : ByteArray := prog_11_method_49_code
def yX9_told : MethodName := ⟨RX9, "told", "(IIIII)I"⟩
abbrev cX9_sum : ByteArray := prog_11_method_50_code
def yX9_sum : MethodName := ⟨RX9, "sum", "(I)J"⟩
abbrev cX9_share : ByteArray := prog_11_method_51_code
def yX9_share : MethodName := ⟨RX9, "share", "(III)I"⟩
abbrev cX9_free : ByteArray := prog_11_method_52_code
def yX9_free : MethodName := ⟨RX9, "free", "(II)I"⟩
abbrev cX9_count : ByteArray := prog_11_method_53_code
def yX9_count : MethodName := ⟨RX9, "count", "(I)I"⟩
def RJ10 : String := "java/lang/System"
def TJ10 : u_T := fun k => match k with
  | _ => ("", "", "", false)
def tyJ10 : Nat → FieldType := fun k => match k with
  | _ => .int
abbrev wsJ100 : List Cond := u_ws RJ10 TJ10 0
theorem nmJ10 : ∀ a, a < 0 → ∀ b, b < 0 → a ≠ b → (TJ10 a).2.1 ≠ (TJ10 b).2.1 := by decide +kernel
theorem tyJ10_ok : ∀ k, k < 0 → parseFieldDescriptor (TJ10 k).2.2.1 = some (tyJ10 k) := by decide +kernel
def RJ7 : String := "java/util/Arrays"
def TJ7 : u_T := fun k => match k with
  | _ => ("", "", "", false)
def tyJ7 : Nat → FieldType := fun k => match k with
  | _ => .int
abbrev wsJ70 : List Cond := u_ws RJ7 TJ7 0
theorem nmJ7 : ∀ a, a < 0 → ∀ b, b < 0 → a ≠ b → (TJ7 a).2.1 ≠ (TJ7 b).2.1 := by decide +kernel
theorem tyJ7_ok : ∀ k, k < 0 → parseFieldDescriptor (TJ7 k).2.2.1 = some (tyJ7 k) := by decide +kernel
abbrev cJ7_fill_d0a16 : ByteArray := prog_13_method_101_code
def yJ7_fill_d0a16 : MethodName := ⟨RJ7, "fill", "([JJ)V"⟩
abbrev cJ7_fill_53178 : ByteArray := prog_13_method_103_code
def yJ7_fill_53178 : MethodName := ⟨RJ7, "fill", "([II)V"⟩
def RL : String := "GrowingUrnsLaw"
abbrev cL_law : ByteArray := code
def yL_law : MethodName := ⟨RL, "law", "([I)Z"⟩
abbrev vwCl : List vw_C := [(RX0, TX0, 11), (RX1, TX1, 3), (RX2, TX2, 3), (RX3, TX3, 2), (RX4, TX4, 4), (RX5, TX5, 3), (RX6, TX6, 3), (RX7, TX7, 5), (RX8, TX8, 10), (RX9, TX9, 26)]
end
section
abbrev gT0 : List Cond := [Cond.initialized RL, Cond.initialized RX8, Cond.initialized RX2, Cond.initialized RX4, Cond.initialized RX5, Cond.initialized RX3, Cond.initialized RX0, Cond.initialized RX1, Cond.initialized RX6, Cond.initialized RX7, Cond.initialized RJ7, Cond.initialized RX9, Cond.initialized RJ10, Cond.classLink RL 7 RX8, Cond.instantiable RX8 10, Cond.methodLink RL 9 yX8_init]
abbrev gT1 : List Cond := [Cond.instanceMethod yX8_init, Cond.code yX8_init cX8_init 2 none, Cond.methodLink RX8 3 objectInit, Cond.instanceMethod objectInit, Cond.code objectInit object_method_1_code 1 none, Cond.classLink RX8 9 RX6, Cond.arrayOver (.object "GrowingUrns$Sheet"), Cond.classLink RX8 15 RX7, Cond.arrayOver (.object "GrowingUrns$Urn"), Cond.classLink RX8 21 RX2, Cond.instantiable RX2 3, Cond.methodLinkNest RX8 23 yX2_init RX8, Cond.instanceMethod yX2_init, Cond.code yX2_init cX2_init 1 none, Cond.methodLink RX2 3 objectInit, Cond.classLink RX2 9 "[[I"]
abbrev gT2 : List Cond := [Cond.arrayOver (.array .int), Cond.fieldLink RX2 11 "GrowingUrns$Kept" "rows" "[[I", Cond.fieldLink RX2 16 "GrowingUrns$Kept" "length" "I", Cond.fieldLink RX8 251 "GrowingUrns$Kept" "length" "I", Cond.fieldLink RX2 20 "GrowingUrns$Kept" "next" "I", Cond.laysFinal RX2 "GrowingUrns$Kept" "rows" "[[I", Cond.soleField "GrowingUrns$Kept" "rows", Cond.lays RX2 "GrowingUrns$Kept" "length" "I", Cond.soleField "GrowingUrns$Kept" "length", Cond.lays RX2 "GrowingUrns$Kept" "next" "I", Cond.soleField "GrowingUrns$Kept" "next", Cond.superclass RX2 "java/lang/Object", Cond.arrayClass .int, Cond.classLink RX8 28 RX4, Cond.instantiable RX4 4, Cond.methodLinkNest RX8 30 yX4_init RX8]
abbrev gT3 : List Cond := [Cond.instanceMethod yX4_init, Cond.code yX4_init cX4_init 1 none, Cond.methodLink RX4 3 objectInit, Cond.fieldLink RX4 9 "GrowingUrns$Path" "urns" "[I", Cond.fieldLink RX8 274 "GrowingUrns$Path" "urns" "[I", Cond.fieldLink RX4 15 "GrowingUrns$Path" "colours" "[I", Cond.fieldLink RX8 165 "GrowingUrns$Path" "colours" "[I", Cond.fieldLink RX4 18 "GrowingUrns$Path" "length" "I", Cond.fieldLink RX8 162 "GrowingUrns$Path" "length" "I", Cond.fieldLink RX4 22 "GrowingUrns$Path" "seed" "J", Cond.fieldLink RX8 261 "GrowingUrns$Path" "seed" "J", Cond.laysFinal RX4 "GrowingUrns$Path" "urns" "[I", Cond.soleField "GrowingUrns$Path" "urns", Cond.laysFinal RX4 "GrowingUrns$Path" "colours" "[I", Cond.soleField "GrowingUrns$Path" "colours", Cond.lays RX4 "GrowingUrns$Path" "length" "I"]
abbrev gT4 : List Cond := [Cond.soleField "GrowingUrns$Path" "length", Cond.lays RX4 "GrowingUrns$Path" "seed" "J", Cond.soleField "GrowingUrns$Path" "seed", Cond.superclass RX4 "java/lang/Object", Cond.classLink RX8 35 RX5, Cond.instantiable RX5 3, Cond.methodLinkNest RX8 37 yX5_init RX8, Cond.instanceMethod yX5_init, Cond.code yX5_init cX5_init 1 none, Cond.methodLink RX5 3 objectInit, Cond.fieldLink RX5 9 "GrowingUrns$Row" "balls" "[I", Cond.fieldLink RX5 15 "GrowingUrns$Row" "above" "J", Cond.fieldLink RX3 48 "GrowingUrns$Row" "above" "J", Cond.fieldLink RX8 182 "GrowingUrns$Row" "above" "J", Cond.fieldLink RX5 19 "GrowingUrns$Row" "below" "J", Cond.fieldLink RX3 52 "GrowingUrns$Row" "below" "J"]
abbrev gT5 : List Cond := [Cond.fieldLink RX8 186 "GrowingUrns$Row" "below" "J", Cond.laysFinal RX5 "GrowingUrns$Row" "balls" "[I", Cond.soleField "GrowingUrns$Row" "balls", Cond.lays RX5 "GrowingUrns$Row" "above" "J", Cond.soleField "GrowingUrns$Row" "above", Cond.lays RX5 "GrowingUrns$Row" "below" "J", Cond.soleField "GrowingUrns$Row" "below", Cond.superclass RX5 "java/lang/Object", Cond.classLink RX8 42 RX3, Cond.instantiable RX3 2, Cond.methodLinkNest RX8 44 yX3_init RX8, Cond.instanceMethod yX3_init, Cond.code yX3_init cX3_init 1 none, Cond.methodLink RX3 3 objectInit, Cond.fieldLink RX3 11 "GrowingUrns$Orders" "aboves" "[J", Cond.fieldLink RX3 15 "GrowingUrns$Orders" "belows" "[J"]
abbrev gT6 : List Cond := [Cond.laysFinal RX3 "GrowingUrns$Orders" "aboves" "[J", Cond.soleField "GrowingUrns$Orders" "aboves", Cond.laysFinal RX3 "GrowingUrns$Orders" "belows" "[J", Cond.soleField "GrowingUrns$Orders" "belows", Cond.superclass RX3 "java/lang/Object", Cond.arrayClass .long, Cond.classLink RX8 49 RX0, Cond.instantiable RX0 11, Cond.methodLinkNest RX8 51 yX0_init RX8, Cond.instanceMethod yX0_init, Cond.code yX0_init cX0_init 1 none, Cond.methodLink RX0 3 objectInit, Cond.fieldLink RX0 11 "GrowingUrns$After" "now" "[J", Cond.fieldLink RX0 15 "GrowingUrns$After" "next" "[J", Cond.fieldLink RX0 18 "GrowingUrns$After" "only" "[I", Cond.fieldLink RX0 22 "GrowingUrns$After" "often" "[I"]
abbrev gT7 : List Cond := [Cond.fieldLink RX0 25 "GrowingUrns$After" "balls" "[I", Cond.fieldLink RX0 28 "GrowingUrns$After" "byTimes" "[J", Cond.fieldLink RX8 199 "GrowingUrns$After" "byTimes" "[J", Cond.fieldLink RX0 31 "GrowingUrns$After" "byBalls" "[J", Cond.fieldLink RX8 203 "GrowingUrns$After" "byBalls" "[J", Cond.fieldLink RX0 34 "GrowingUrns$After" "ended" "J", Cond.fieldLink RX8 206 "GrowingUrns$After" "ended" "J", Cond.fieldLink RX0 38 "GrowingUrns$After" "below" "J", Cond.fieldLink RX8 202 "GrowingUrns$After" "below" "J", Cond.fieldLink RX0 41 "GrowingUrns$After" "meanWhole" "J", Cond.fieldLink RX8 212 "GrowingUrns$After" "meanWhole" "J", Cond.fieldLink RX0 44 "GrowingUrns$After" "meanRest" "J", Cond.fieldLink RX8 215 "GrowingUrns$After" "meanRest" "J", Cond.lays RX0 "GrowingUrns$After" "now" "[J", Cond.soleField "GrowingUrns$After" "now", Cond.lays RX0 "GrowingUrns$After" "next" "[J"]
abbrev gT8 : List Cond := [Cond.soleField "GrowingUrns$After" "next", Cond.laysFinal RX0 "GrowingUrns$After" "only" "[I", Cond.soleField "GrowingUrns$After" "only", Cond.laysFinal RX0 "GrowingUrns$After" "often" "[I", Cond.soleField "GrowingUrns$After" "often", Cond.laysFinal RX0 "GrowingUrns$After" "balls" "[I", Cond.soleField "GrowingUrns$After" "balls", Cond.laysFinal RX0 "GrowingUrns$After" "byTimes" "[J", Cond.soleField "GrowingUrns$After" "byTimes", Cond.laysFinal RX0 "GrowingUrns$After" "byBalls" "[J", Cond.soleField "GrowingUrns$After" "byBalls", Cond.lays RX0 "GrowingUrns$After" "ended" "J", Cond.soleField "GrowingUrns$After" "ended", Cond.lays RX0 "GrowingUrns$After" "below" "J", Cond.soleField "GrowingUrns$After" "below", Cond.lays RX0 "GrowingUrns$After" "meanWhole" "J"]
abbrev gT9 : List Cond := [Cond.soleField "GrowingUrns$After" "meanWhole", Cond.lays RX0 "GrowingUrns$After" "meanRest" "J", Cond.soleField "GrowingUrns$After" "meanRest", Cond.superclass RX0 "java/lang/Object", Cond.classLink RX8 56 RX1, Cond.instantiable RX1 3, Cond.methodLinkNest RX8 58 yX1_init RX8, Cond.instanceMethod yX1_init, Cond.code yX1_init cX1_init 1 none, Cond.methodLink RX1 1 objectInit, Cond.fieldLink RX1 7 "GrowingUrns$Fraction" "whole" "J", Cond.fieldLink RX8 244 "GrowingUrns$Fraction" "whole" "J", Cond.fieldLink RX1 13 "GrowingUrns$Fraction" "above" "J", Cond.fieldLink RX8 247 "GrowingUrns$Fraction" "above" "J", Cond.fieldLink RX1 16 "GrowingUrns$Fraction" "below" "J", Cond.fieldLink RX8 248 "GrowingUrns$Fraction" "below" "J"]
abbrev gT10 : List Cond := [Cond.lays RX1 "GrowingUrns$Fraction" "whole" "J", Cond.soleField "GrowingUrns$Fraction" "whole", Cond.lays RX1 "GrowingUrns$Fraction" "above" "J", Cond.soleField "GrowingUrns$Fraction" "above", Cond.lays RX1 "GrowingUrns$Fraction" "below" "J", Cond.soleField "GrowingUrns$Fraction" "below", Cond.superclass RX1 "java/lang/Object", Cond.instantiable RX6 3, Cond.methodLinkNest RX8 70 yX6_init RX8, Cond.instanceMethod yX6_init, Cond.code yX6_init cX6_init 1 none, Cond.methodLink RX6 3 objectInit, Cond.fieldLink RX6 9 "GrowingUrns$Sheet" "places" "[J", Cond.fieldLink RX8 87 "GrowingUrns$Sheet" "places" "[J", Cond.fieldLink RX6 15 "GrowingUrns$Sheet" "kind" "I", Cond.fieldLink RX8 80 "GrowingUrns$Sheet" "kind" "I"]
abbrev gT11 : List Cond := [Cond.fieldLink RX6 19 "GrowingUrns$Sheet" "length" "I", Cond.laysFinal RX6 "GrowingUrns$Sheet" "places" "[J", Cond.soleField "GrowingUrns$Sheet" "places", Cond.lays RX6 "GrowingUrns$Sheet" "kind" "I", Cond.soleField "GrowingUrns$Sheet" "kind", Cond.lays RX6 "GrowingUrns$Sheet" "length" "I", Cond.soleField "GrowingUrns$Sheet" "length", Cond.superclass RX6 "java/lang/Object", Cond.instantiable RX7 5, Cond.methodLink RX8 71 yX7_init, Cond.instanceMethod yX7_init, Cond.code yX7_init cX7_init 1 none, Cond.methodLink RX7 3 objectInit, Cond.methodLink RX7 28 yJ7_fill_53178, Cond.static yJ7_fill_53178, Cond.code yJ7_fill_53178 cJ7_fill_53178 4 none]
abbrev gT12 : List Cond := [Cond.fieldLink RX7 9 "GrowingUrns$Urn" "balls" "[I", Cond.fieldLink RX5 22 "GrowingUrns$Urn" "balls" "[I", Cond.fieldLink RX8 119 "GrowingUrns$Urn" "balls" "[I", Cond.fieldLink RX0 99 "GrowingUrns$Urn" "balls" "[I", Cond.fieldLink RX7 15 "GrowingUrns$Urn" "table" "[I", Cond.fieldLink RX8 123 "GrowingUrns$Urn" "table" "[I", Cond.fieldLink RX0 100 "GrowingUrns$Urn" "table" "[I", Cond.fieldLink RX7 18 "GrowingUrns$Urn" "under" "[I", Cond.fieldLink RX8 126 "GrowingUrns$Urn" "under" "[I", Cond.fieldLink RX7 21 "GrowingUrns$Urn" "colours" "I", Cond.fieldLink RX8 109 "GrowingUrns$Urn" "colours" "I", Cond.fieldLink RX0 103 "GrowingUrns$Urn" "colours" "I", Cond.fieldLink RX7 25 "GrowingUrns$Urn" "draws" "I", Cond.fieldLink RX8 133 "GrowingUrns$Urn" "draws" "I", Cond.laysFinal RX7 "GrowingUrns$Urn" "balls" "[I", Cond.soleField "GrowingUrns$Urn" "balls"]
abbrev gT13 : List Cond := [Cond.laysFinal RX7 "GrowingUrns$Urn" "table" "[I", Cond.soleField "GrowingUrns$Urn" "table", Cond.laysFinal RX7 "GrowingUrns$Urn" "under" "[I", Cond.soleField "GrowingUrns$Urn" "under", Cond.lays RX7 "GrowingUrns$Urn" "colours" "I", Cond.soleField "GrowingUrns$Urn" "colours", Cond.lays RX7 "GrowingUrns$Urn" "draws" "I", Cond.soleField "GrowingUrns$Urn" "draws", Cond.superclass RX7 "java/lang/Object", Cond.fieldLink RX8 11 "GrowingUrns" "sheets" "[LGrowingUrns$Sheet;", Cond.fieldLink RX8 17 "GrowingUrns" "urns" "[LGrowingUrns$Urn;", Cond.fieldLink RX8 24 "GrowingUrns" "kept" "LGrowingUrns$Kept;", Cond.fieldLink RX8 31 "GrowingUrns" "path" "LGrowingUrns$Path;", Cond.fieldLink RX8 38 "GrowingUrns" "tried" "LGrowingUrns$Row;", Cond.fieldLink RX8 45 "GrowingUrns" "orders" "LGrowingUrns$Orders;", Cond.fieldLink RX8 52 "GrowingUrns" "after" "LGrowingUrns$After;"]
abbrev gT14 : List Cond := [Cond.fieldLink RX8 59 "GrowingUrns" "fraction" "LGrowingUrns$Fraction;", Cond.fieldLink RX8 63 "GrowingUrns" "made" "I", Cond.fieldLink RX8 67 "GrowingUrns" "seed" "I", Cond.laysFinal RX8 "GrowingUrns" "sheets" "[LGrowingUrns$Sheet;", Cond.soleField "GrowingUrns" "sheets", Cond.laysFinal RX8 "GrowingUrns" "urns" "[LGrowingUrns$Urn;", Cond.soleField "GrowingUrns" "urns", Cond.laysFinal RX8 "GrowingUrns" "kept" "LGrowingUrns$Kept;", Cond.soleField "GrowingUrns" "kept", Cond.laysFinal RX8 "GrowingUrns" "path" "LGrowingUrns$Path;", Cond.soleField "GrowingUrns" "path", Cond.laysFinal RX8 "GrowingUrns" "tried" "LGrowingUrns$Row;", Cond.soleField "GrowingUrns" "tried", Cond.laysFinal RX8 "GrowingUrns" "orders" "LGrowingUrns$Orders;", Cond.soleField "GrowingUrns" "orders", Cond.laysFinal RX8 "GrowingUrns" "after" "LGrowingUrns$After;"]
abbrev g_tables_1_1 : List Cond := gT0 ++ (gT1 ++ (gT2 ++ (gT3 ++ (gT4 ++ (gT5 ++ (gT6 ++ (gT7 ++ (gT8 ++ (gT9 ++ (gT10 ++ (gT11 ++ (gT12 ++ (gT13 ++ (gT14 ++ (([] : List Cond))))))))))))))))
set_option maxRecDepth 100000 in
theorem e_tables_1_1 : tables_1_1 = g_tables_1_1 := rfl
abbrev gT15 : List Cond := [Cond.soleField "GrowingUrns" "after", Cond.laysFinal RX8 "GrowingUrns" "fraction" "LGrowingUrns$Fraction;", Cond.soleField "GrowingUrns" "fraction", Cond.lays RX8 "GrowingUrns" "made" "I", Cond.soleField "GrowingUrns" "made", Cond.lays RX8 "GrowingUrns" "seed" "I", Cond.soleField "GrowingUrns" "seed", Cond.superclass RX8 "java/lang/Object", Cond.methodLink RL 13 yX8_sheet, Cond.instanceMethod yX8_sheet, Cond.selects RX8 yX8_sheet yX8_sheet, Cond.code yX8_sheet cX8_sheet 5 (some .int), Cond.methodLink RX8 72 yX8_sheetAt, Cond.privateMethod yX8_sheetAt, Cond.instanceMethod yX8_sheetAt, Cond.code yX8_sheetAt cX8_sheetAt 2 (some (.object "GrowingUrns$Sheet"))]
abbrev gT16 : List Cond := [Cond.methodLink RX8 76 yX6_become, Cond.instanceMethod yX6_become, Cond.selects RX6 yX6_become yX6_become, Cond.code yX6_become cX6_become 3 none, Cond.methodLink RX6 22 yJ7_fill_d0a16, Cond.static yJ7_fill_d0a16, Cond.code yJ7_fill_d0a16 cJ7_fill_d0a16 5 none, Cond.methodLink RL 20 yX8_lay, Cond.instanceMethod yX8_lay, Cond.selects RX8 yX8_lay yX8_lay, Cond.code yX8_lay cX8_lay 6 (some .int), Cond.methodLink RX8 83 yX6_reaches, Cond.instanceMethod yX6_reaches, Cond.selects RX6 yX6_reaches yX6_reaches, Cond.code yX6_reaches cX6_reaches 3 (some .boolean), Cond.methodLink RX8 91 yX6_cut]
abbrev gT17 : List Cond := [Cond.instanceMethod yX6_cut, Cond.selects RX6 yX6_cut yX6_cut, Cond.code yX6_cut cX6_cut 3 (some .long), Cond.methodLink RL 25 yX8_copy, Cond.instanceMethod yX8_copy, Cond.selects RX8 yX8_copy yX8_copy, Cond.code yX8_copy cX8_copy 8 (some .int), Cond.methodLink RX8 95 arraycopyName, Cond.static arraycopyName, Cond.native arraycopyName, Cond.methodLink RL 30 yX8_holds, Cond.instanceMethod yX8_holds, Cond.selects RX8 yX8_holds yX8_holds, Cond.code yX8_holds cX8_holds 6 (some .int), Cond.methodLink RL 34 yX8_read, Cond.instanceMethod yX8_read]
abbrev gT18 : List Cond := [Cond.selects RX8 yX8_read yX8_read, Cond.code yX8_read cX8_read 13 (some .int), Cond.methodLink RX8 101 yX8_urnAt, Cond.privateMethod yX8_urnAt, Cond.instanceMethod yX8_urnAt, Cond.code yX8_urnAt cX8_urnAt 2 (some (.object "GrowingUrns$Urn")), Cond.methodLink RX8 105 yX7_has, Cond.instanceMethod yX7_has, Cond.selects RX7 yX7_has yX7_has, Cond.code yX7_has cX7_has 2 (some .boolean), Cond.methodLink RX8 112 yX6_liesWithin, Cond.instanceMethod yX6_liesWithin, Cond.selects RX6 yX6_liesWithin yX6_liesWithin, Cond.code yX6_liesWithin cX6_liesWithin 6 (some .boolean), Cond.methodLink RX8 116 yX8_keepAct, Cond.privateMethod yX8_keepAct]
abbrev gT19 : List Cond := [Cond.instanceMethod yX8_keepAct, Cond.code yX8_keepAct cX8_keepAct 3 none, Cond.methodLink RX8 255 yX2_nextRow, Cond.instanceMethod yX2_nextRow, Cond.selects RX2 yX2_nextRow yX2_nextRow, Cond.code yX2_nextRow cX2_nextRow 2 (some (.array .int)), Cond.methodLink RX8 258 yX7_goInto, Cond.instanceMethod yX7_goInto, Cond.selects RX7 yX7_goInto yX7_goInto, Cond.code yX7_goInto cX7_goInto 3 none, Cond.methodLink RX7 45 arraycopyName, Cond.methodLink RL 38 yX8_urn, Cond.instanceMethod yX8_urn, Cond.selects RX8 yX8_urn yX8_urn, Cond.code yX8_urn cX8_urn 2 (some .int), Cond.methodLink RL 43 yX8_put]
abbrev gT20 : List Cond := [Cond.instanceMethod yX8_put, Cond.selects RX8 yX8_put yX8_put, Cond.code yX8_put cX8_put 6 (some .int), Cond.methodLink RL 47 yX8_add, Cond.instanceMethod yX8_add, Cond.selects RX8 yX8_add yX8_add, Cond.code yX8_add cX8_add 7 (some .int), Cond.methodLink RL 52 yX8_is, Cond.instanceMethod yX8_is, Cond.selects RX8 yX8_is yX8_is, Cond.code yX8_is cX8_is 6 (some .int), Cond.methodLink RL 56 yX8_about, Cond.instanceMethod yX8_about, Cond.selects RX8 yX8_about yX8_about, Cond.code yX8_about cX8_about 4 (some .int), Cond.methodLink RX8 129 yX7_total]
abbrev gT21 : List Cond := [Cond.instanceMethod yX7_total, Cond.selects RX7 yX7_total yX7_total, Cond.code yX7_total cX7_total 1 (some .int), Cond.methodLink RX8 136 yX7_isEven, Cond.instanceMethod yX7_isEven, Cond.selects RX7 yX7_isEven yX7_isEven, Cond.code yX7_isEven cX7_isEven 2 (some .boolean), Cond.methodLink RX7 38 yX7_growth, Cond.instanceMethod yX7_growth, Cond.selects RX7 yX7_growth yX7_growth, Cond.code yX7_growth cX7_growth 4 (some .int), Cond.methodLink RX8 140 yX7_growth, Cond.methodLink RX8 144 yX7_isLike, Cond.instanceMethod yX7_isLike, Cond.selects RX7 yX7_isLike yX7_isLike, Cond.code yX7_isLike cX7_isLike 4 (some .boolean)]
abbrev gT22 : List Cond := [Cond.methodLink RL 61 yX8_added, Cond.instanceMethod yX8_added, Cond.selects RX8 yX8_added yX8_added, Cond.code yX8_added cX8_added 5 (some .int), Cond.methodLink RL 65 yX8_draw, Cond.instanceMethod yX8_draw, Cond.selects RX8 yX8_draw yX8_draw, Cond.code yX8_draw cX8_draw 4 (some .int), Cond.methodLink RX8 147 yX7_lets, Cond.instanceMethod yX7_lets, Cond.selects RX7 yX7_lets yX7_lets, Cond.code yX7_lets cX7_lets 5 (some .boolean), Cond.methodLink RX8 151 yX7_doDraw, Cond.instanceMethod yX7_doDraw, Cond.selects RX7 yX7_doDraw yX7_doDraw, Cond.code yX7_doDraw cX7_doDraw 2 none]
abbrev gT23 : List Cond := [Cond.methodLink RX7 42 yX7_grow, Cond.instanceMethod yX7_grow, Cond.selects RX7 yX7_grow yX7_grow, Cond.code yX7_grow cX7_grow 4 none, Cond.methodLink RL 69 yX8_seed, Cond.instanceMethod yX8_seed, Cond.selects RX8 yX8_seed yX8_seed, Cond.code yX8_seed cX8_seed 2 (some .int), Cond.constant RX8 155 (2147483646), Cond.methodLink RL 73 yX8_drawn, Cond.instanceMethod yX8_drawn, Cond.selects RX8 yX8_drawn yX8_drawn, Cond.code yX8_drawn cX8_drawn 4 (some .int), Cond.methodLink RX8 156 yX8_findPath, Cond.privateMethod yX8_findPath, Cond.instanceMethod yX8_findPath]
abbrev gT24 : List Cond := [Cond.code yX8_findPath cX8_findPath 6 (some .boolean), Cond.constantLong RX8 263 (48271), Cond.constantLong RX8 265 (11), Cond.constantLong RX8 267 (2147483647), Cond.constantLong RX8 269 (16), Cond.methodLink RX8 271 yX7_colourOf, Cond.instanceMethod yX7_colourOf, Cond.selects RX7 yX7_colourOf yX7_colourOf, Cond.code yX7_colourOf cX7_colourOf 4 (some .int), Cond.methodLink RX8 159 yX8_goPath, Cond.privateMethod yX8_goPath, Cond.instanceMethod yX8_goPath, Cond.code yX8_goPath cX8_goPath 2 none, Cond.methodLink RL 77 yX8_shake, Cond.instanceMethod yX8_shake, Cond.selects RX8 yX8_shake yX8_shake]
abbrev gT25 : List Cond := [Cond.code yX8_shake cX8_shake 4 (some .int), Cond.methodLink RL 81 yX8_undo, Cond.instanceMethod yX8_undo, Cond.selects RX8 yX8_undo yX8_undo, Cond.code yX8_undo cX8_undo 3 (some .int), Cond.methodLink RX8 167 yX2_takeLatest, Cond.instanceMethod yX2_takeLatest, Cond.selects RX2 yX2_takeLatest yX2_takeLatest, Cond.code yX2_takeLatest cX2_takeLatest 1 (some (.array .int)), Cond.methodLink RX8 171 yX7_comeFrom, Cond.instanceMethod yX7_comeFrom, Cond.selects RX7 yX7_comeFrom yX7_comeFrom, Cond.code yX7_comeFrom cX7_comeFrom 3 none, Cond.methodLink RL 86 yX8_chance, Cond.instanceMethod yX8_chance, Cond.selects RX8 yX8_chance yX8_chance]
abbrev gT26 : List Cond := [Cond.code yX8_chance cX8_chance 5 (some .int), Cond.methodLink RX8 175 yX7_hasAll, Cond.instanceMethod yX7_hasAll, Cond.selects RX7 yX7_hasAll yX7_hasAll, Cond.code yX7_hasAll cX7_hasAll 5 (some .boolean), Cond.methodLink RX7 34 yX7_has, Cond.methodLink RX8 178 yX5_follow, Cond.instanceMethod yX5_follow, Cond.selects RX5 yX5_follow yX5_follow, Cond.code yX5_follow cX5_follow 7 (some .boolean), Cond.methodLink RX5 25 arraycopyName, Cond.methodLink RX5 31 yX7_lets, Cond.methodLink RX5 35 yX5_comeTimes, Cond.instanceMethod yX5_comeTimes, Cond.selects RX5 yX5_comeTimes yX5_comeTimes, Cond.code yX5_comeTimes cX5_comeTimes 13 (some .boolean)]
abbrev gT27 : List Cond := [Cond.methodLinkNest RX5 43 yX8_common RX8, Cond.static yX8_common, Cond.code yX8_common cX8_common 11 (some .long), Cond.constantLong RX5 47 (1000000000000000000), Cond.methodLink RX5 39 yX7_grow, Cond.methodLink RX8 189 yX1_become, Cond.instanceMethod yX1_become, Cond.selects RX1 yX1_become yX1_become, Cond.code yX1_become cX1_become 11 none, Cond.methodLinkNest RX1 19 yX8_common RX8, Cond.methodLink RL 90 yX8_times, Cond.instanceMethod yX8_times, Cond.selects RX8 yX8_times yX8_times, Cond.code yX8_times cX8_times 7 (some .int), Cond.methodLink RX8 192 yX8_areDraws, Cond.static yX8_areDraws]
abbrev gT28 : List Cond := [Cond.code yX8_areDraws cX8_areDraws 1 (some .boolean), Cond.methodLink RX8 195 yX8_weighRows, Cond.privateMethod yX8_weighRows, Cond.instanceMethod yX8_weighRows, Cond.code yX8_weighRows cX8_weighRows 4 (some .int), Cond.methodLink RX8 228 yX0_findBelow, Cond.instanceMethod yX0_findBelow, Cond.selects RX0 yX0_findBelow yX0_findBelow, Cond.code yX0_findBelow cX0_findBelow 6 (some .boolean), Cond.methodLink RX0 53 yX0_factorAt, Cond.static yX0_factorAt, Cond.code yX0_factorAt cX0_factorAt 3 (some .long), Cond.methodLink RX0 59 yX7_total, Cond.methodLink RX0 65 yX7_growth, Cond.constantLong RX0 57 (10000000000000000), Cond.methodLink RX8 218 yX0_letAny]
abbrev gT29 : List Cond := [Cond.instanceMethod yX0_letAny, Cond.selects RX0 yX0_letAny yX0_letAny, Cond.code yX0_letAny cX0_letAny 1 none, Cond.methodLink RX0 47 yJ7_fill_53178, Cond.methodLink RX8 232 yX0_weigh, Cond.instanceMethod yX0_weigh, Cond.selects RX0 yX0_weigh yX0_weigh, Cond.code yX0_weigh cX0_weigh 4 none, Cond.methodLink RX0 69 yX0_walk, Cond.privateMethod yX0_walk, Cond.instanceMethod yX0_walk, Cond.code yX0_walk cX0_walk 7 none, Cond.methodLink RX0 77 yJ7_fill_d0a16, Cond.methodLink RX0 80 yX0_walkStep, Cond.privateMethod yX0_walkStep, Cond.instanceMethod yX0_walkStep]
abbrev g_tables_1_2 : List Cond := gT15 ++ (gT16 ++ (gT17 ++ (gT18 ++ (gT19 ++ (gT20 ++ (gT21 ++ (gT22 ++ (gT23 ++ (gT24 ++ (gT25 ++ (gT26 ++ (gT27 ++ (gT28 ++ (gT29 ++ (([] : List Cond))))))))))))))))
set_option maxRecDepth 100000 in
theorem e_tables_1_2 : tables_1_2 = g_tables_1_2 := rfl
abbrev gT30 : List Cond := [Cond.code yX0_walkStep cX0_walkStep 12 none, Cond.fieldLink RX0 84 "GrowingUrns$After" "STEPS" "[I", Cond.laysStatic "GrowingUrns$After" "STEPS" "[I", Cond.methodLink RX0 87 yX0_findBalls, Cond.privateMethod yX0_findBalls, Cond.instanceMethod yX0_findBalls, Cond.code yX0_findBalls cX0_findBalls 4 none, Cond.methodLink RX0 91 yX0_settle, Cond.privateMethod yX0_settle, Cond.instanceMethod yX0_settle, Cond.code yX0_settle cX0_settle 5 none, Cond.methodLink RX0 95 yX0_spread, Cond.privateMethod yX0_spread, Cond.instanceMethod yX0_spread, Cond.code yX0_spread cX0_spread 10 none, Cond.methodLink RX0 107 yX7_lets]
abbrev gT31 : List Cond := [Cond.methodLink RL 94 yX8_left, Cond.instanceMethod yX8_left, Cond.selects RX8 yX8_left yX8_left, Cond.code yX8_left cX8_left 7 (some .int), Cond.methodLink RL 98 yX8_stuck, Cond.instanceMethod yX8_stuck, Cond.selects RX8 yX8_stuck yX8_stuck, Cond.code yX8_stuck cX8_stuck 5 (some .int), Cond.methodLink RL 102 yX8_mean, Cond.instanceMethod yX8_mean, Cond.selects RX8 yX8_mean yX8_mean, Cond.code yX8_mean cX8_mean 7 (some .int), Cond.methodLink RX8 209 yX0_findMean, Cond.instanceMethod yX0_findMean, Cond.selects RX0 yX0_findMean yX0_findMean, Cond.code yX0_findMean cX0_findMean 10 none]
abbrev gT32 : List Cond := [Cond.methodLink RL 106 yX8_told, Cond.instanceMethod yX8_told, Cond.selects RX8 yX8_told yX8_told, Cond.code yX8_told cX8_told 9 (some .int), Cond.methodLink RX8 221 yX0_letOnly, Cond.instanceMethod yX0_letOnly, Cond.selects RX0 yX0_letOnly yX0_letOnly, Cond.code yX0_letOnly cX0_letOnly 3 none, Cond.methodLink RX8 224 yX0_countRows, Cond.instanceMethod yX0_countRows, Cond.selects RX0 yX0_countRows yX0_countRows, Cond.code yX0_countRows cX0_countRows 3 (some .long), Cond.methodLink RX0 73 yX0_through, Cond.instanceMethod yX0_through, Cond.selects RX0 yX0_through yX0_through, Cond.code yX0_through cX0_through 8 (some .long)]
abbrev gT33 : List Cond := [Cond.methodLink RX8 236 yX0_through, Cond.methodLink RL 110 yX8_share, Cond.instanceMethod yX8_share, Cond.selects RX8 yX8_share yX8_share, Cond.code yX8_share cX8_share 11 (some .int), Cond.methodLink RL 114 yX8_free, Cond.instanceMethod yX8_free, Cond.selects RX8 yX8_free yX8_free, Cond.code yX8_free cX8_free 4 (some .int), Cond.methodLink RX8 240 yX3_areAlike, Cond.instanceMethod yX3_areAlike, Cond.selects RX3 yX3_areAlike yX3_areAlike, Cond.code yX3_areAlike cX3_areAlike 6 (some .boolean), Cond.methodLink RX3 18 yJ7_fill_d0a16, Cond.methodLink RX3 24 yX7_hasAll, Cond.methodLink RX3 30 yX5_follow]
abbrev gT34 : List Cond := [Cond.methodLink RX3 36 yX3_placeOf, Cond.static yX3_placeOf, Cond.code yX3_placeOf cX3_placeOf 5 (some .int), Cond.fieldLink RX3 44 "GrowingUrns$Orders" "STEPS" "[I", Cond.laysStatic "GrowingUrns$Orders" "STEPS" "[I", Cond.methodLink RX3 40 yX3_isAsAhead, Cond.privateMethod yX3_isAsAhead, Cond.instanceMethod yX3_isAsAhead, Cond.code yX3_isAsAhead cX3_isAsAhead 3 (some .boolean), Cond.methodLink RL 118 yX8_part, Cond.instanceMethod yX8_part, Cond.selects RX8 yX8_part yX8_part, Cond.code yX8_part cX8_part 2 (some .long), Cond.constantLong RX8 249 (-1), Cond.methodLink RL 123 yX8_count, Cond.instanceMethod yX8_count]
abbrev gT35 : List Cond := [Cond.selects RX8 yX8_count yX8_count, Cond.code yX8_count cX8_count 2 (some .int), Cond.methodLink RX8 252 yX8_drawsInAll, Cond.privateMethod yX8_drawsInAll, Cond.instanceMethod yX8_drawsInAll, Cond.code yX8_drawsInAll cX8_drawsInAll 3 (some .int), Cond.classLink RL 10 RX9, Cond.instantiable RX9 26, Cond.methodLink RL 12 yX9_init, Cond.instanceMethod yX9_init, Cond.code yX9_init cX9_init 3 none, Cond.methodLink RX9 1 objectInit, Cond.fieldLink RX9 7 "GrowingUrnsModel" "sheetKind" "[I", Cond.fieldLink RX9 13 "GrowingUrnsModel" "sheetSize" "[I", Cond.fieldLink RX9 16 "GrowingUrnsModel" "sheet" "[J", Cond.fieldLink RX9 20 "GrowingUrnsModel" "spare" "[J"]
abbrev gT36 : List Cond := [Cond.fieldLink RX9 82 "GrowingUrnsModel" "urns" "I", Cond.fieldLink RX9 23 "GrowingUrnsModel" "colours" "[I", Cond.fieldLink RX9 26 "GrowingUrnsModel" "st" "[I", Cond.fieldLink RX9 29 "GrowingUrnsModel" "kept" "[I", Cond.fieldLink RX9 86 "GrowingUrnsModel" "keptMany" "I", Cond.fieldLink RX9 154 "GrowingUrnsModel" "whole" "J", Cond.fieldLink RX9 157 "GrowingUrnsModel" "up" "J", Cond.fieldLink RX9 32 "GrowingUrnsModel" "down" "J", Cond.fieldLink RX9 129 "GrowingUrnsModel" "steps" "I", Cond.fieldLink RX9 36 "GrowingUrnsModel" "stepUrn" "[I", Cond.fieldLink RX9 39 "GrowingUrnsModel" "stepColour" "[I", Cond.fieldLink RX9 132 "GrowingUrnsModel" "seedThen" "I", Cond.fieldLink RX9 42 "GrowingUrnsModel" "now" "[I", Cond.fieldLink RX9 160 "GrowingUrnsModel" "rowUp" "J", Cond.fieldLink RX9 163 "GrowingUrnsModel" "rowDown" "J", Cond.fieldLink RX9 45 "GrowingUrnsModel" "weights" "[J"]
abbrev gT37 : List Cond := [Cond.fieldLink RX9 178 "GrowingUrnsModel" "deep" "J", Cond.fieldLink RX9 183 "GrowingUrnsModel" "stuckAbove" "J", Cond.fieldLink RX9 48 "GrowingUrnsModel" "drawn" "[I", Cond.fieldLink RX9 51 "GrowingUrnsModel" "there" "[I", Cond.fieldLink RX9 54 "GrowingUrnsModel" "firstUp" "[J", Cond.fieldLink RX9 57 "GrowingUrnsModel" "firstDown" "[J", Cond.laysFinal RX9 "GrowingUrnsModel" "sheetKind" "[I", Cond.soleField "GrowingUrnsModel" "sheetKind", Cond.laysFinal RX9 "GrowingUrnsModel" "sheetSize" "[I", Cond.soleField "GrowingUrnsModel" "sheetSize", Cond.laysFinal RX9 "GrowingUrnsModel" "sheet" "[J", Cond.soleField "GrowingUrnsModel" "sheet", Cond.laysFinal RX9 "GrowingUrnsModel" "spare" "[J", Cond.soleField "GrowingUrnsModel" "spare", Cond.lays RX9 "GrowingUrnsModel" "urns" "I", Cond.soleField "GrowingUrnsModel" "urns"]
abbrev gT38 : List Cond := [Cond.laysFinal RX9 "GrowingUrnsModel" "colours" "[I", Cond.soleField "GrowingUrnsModel" "colours", Cond.laysFinal RX9 "GrowingUrnsModel" "st" "[I", Cond.soleField "GrowingUrnsModel" "st", Cond.laysFinal RX9 "GrowingUrnsModel" "kept" "[I", Cond.soleField "GrowingUrnsModel" "kept", Cond.lays RX9 "GrowingUrnsModel" "keptMany" "I", Cond.soleField "GrowingUrnsModel" "keptMany", Cond.lays RX9 "GrowingUrnsModel" "whole" "J", Cond.soleField "GrowingUrnsModel" "whole", Cond.lays RX9 "GrowingUrnsModel" "up" "J", Cond.soleField "GrowingUrnsModel" "up", Cond.lays RX9 "GrowingUrnsModel" "down" "J", Cond.soleField "GrowingUrnsModel" "down", Cond.lays RX9 "GrowingUrnsModel" "steps" "I", Cond.soleField "GrowingUrnsModel" "steps"]
abbrev gT39 : List Cond := [Cond.laysFinal RX9 "GrowingUrnsModel" "stepUrn" "[I", Cond.soleField "GrowingUrnsModel" "stepUrn", Cond.laysFinal RX9 "GrowingUrnsModel" "stepColour" "[I", Cond.soleField "GrowingUrnsModel" "stepColour", Cond.lays RX9 "GrowingUrnsModel" "seedThen" "I", Cond.soleField "GrowingUrnsModel" "seedThen", Cond.laysFinal RX9 "GrowingUrnsModel" "now" "[I", Cond.soleField "GrowingUrnsModel" "now", Cond.lays RX9 "GrowingUrnsModel" "rowUp" "J", Cond.soleField "GrowingUrnsModel" "rowUp", Cond.lays RX9 "GrowingUrnsModel" "rowDown" "J", Cond.soleField "GrowingUrnsModel" "rowDown", Cond.laysFinal RX9 "GrowingUrnsModel" "weights" "[J", Cond.soleField "GrowingUrnsModel" "weights", Cond.lays RX9 "GrowingUrnsModel" "deep" "J", Cond.soleField "GrowingUrnsModel" "deep"]
abbrev gT40 : List Cond := [Cond.lays RX9 "GrowingUrnsModel" "stuckAbove" "J", Cond.soleField "GrowingUrnsModel" "stuckAbove", Cond.laysFinal RX9 "GrowingUrnsModel" "drawn" "[I", Cond.soleField "GrowingUrnsModel" "drawn", Cond.laysFinal RX9 "GrowingUrnsModel" "there" "[I", Cond.soleField "GrowingUrnsModel" "there", Cond.laysFinal RX9 "GrowingUrnsModel" "firstUp" "[J", Cond.soleField "GrowingUrnsModel" "firstUp", Cond.laysFinal RX9 "GrowingUrnsModel" "firstDown" "[J", Cond.soleField "GrowingUrnsModel" "firstDown", Cond.superclass RX9 "java/lang/Object", Cond.methodLink RL 17 yX9_sheet, Cond.instanceMethod yX9_sheet, Cond.selects RX9 yX9_sheet yX9_sheet, Cond.code yX9_sheet cX9_sheet 5 (some .int), Cond.methodLink RX9 66 yX9_isSheet]
abbrev gT41 : List Cond := [Cond.static yX9_isSheet, Cond.code yX9_isSheet cX9_isSheet 1 (some .boolean), Cond.constantLong RX9 60 (5), Cond.methodLink RX9 62 yX9_in, Cond.static yX9_in, Cond.code yX9_in cX9_in 6 (some .boolean), Cond.constantLong RX9 70 (-1), Cond.constantLong RX9 72 (2), Cond.methodLink RL 24 yX9_lay, Cond.instanceMethod yX9_lay, Cond.selects RX9 yX9_lay yX9_lay, Cond.code yX9_lay cX9_lay 6 (some .int), Cond.methodLink RX9 74 yX9_placed, Cond.privateMethod yX9_placed, Cond.instanceMethod yX9_placed, Cond.code yX9_placed cX9_placed 3 (some .int)]
abbrev gT42 : List Cond := [Cond.methodLink RX9 78 yX9_cut, Cond.static yX9_cut, Cond.code yX9_cut cX9_cut 3 (some .long), Cond.methodLink RL 29 yX9_copy, Cond.instanceMethod yX9_copy, Cond.selects RX9 yX9_copy yX9_copy, Cond.code yX9_copy cX9_copy 7 (some .int), Cond.methodLink RL 33 yX9_holds, Cond.instanceMethod yX9_holds, Cond.selects RX9 yX9_holds yX9_holds, Cond.code yX9_holds cX9_holds 6 (some .int), Cond.methodLink RL 37 yX9_read, Cond.instanceMethod yX9_read, Cond.selects RX9 yX9_read yX9_read, Cond.code yX9_read cX9_read 7 (some .int), Cond.methodLink RX9 89 yX9_isUrn]
abbrev gT43 : List Cond := [Cond.privateMethod yX9_isUrn, Cond.instanceMethod yX9_isUrn, Cond.code yX9_isUrn cX9_isUrn 2 (some .boolean), Cond.methodLink RX9 92 yX9_isColour, Cond.privateMethod yX9_isColour, Cond.instanceMethod yX9_isColour, Cond.code yX9_isColour cX9_isColour 3 (some .boolean), Cond.constantLong RX9 96 (-9), Cond.constantLong RX9 98 (200), Cond.constantLong RX9 100 (9), Cond.methodLink RX9 102 yX9_keep, Cond.privateMethod yX9_keep, Cond.instanceMethod yX9_keep, Cond.code yX9_keep cX9_keep 2 none, Cond.methodLink RL 42 yX9_urn, Cond.instanceMethod yX9_urn]
abbrev gT44 : List Cond := [Cond.selects RX9 yX9_urn yX9_urn, Cond.code yX9_urn cX9_urn 2 (some .int), Cond.constantLong RX9 105 (4), Cond.methodLink RL 46 yX9_put, Cond.instanceMethod yX9_put, Cond.selects RX9 yX9_put yX9_put, Cond.code yX9_put cX9_put 5 (some .int), Cond.methodLink RL 51 yX9_add, Cond.instanceMethod yX9_add, Cond.selects RX9 yX9_add yX9_add, Cond.code yX9_add cX9_add 7 (some .int), Cond.methodLink RL 55 yX9_is, Cond.instanceMethod yX9_is, Cond.selects RX9 yX9_is yX9_is, Cond.code yX9_is cX9_is 6 (some .int), Cond.methodLink RL 60 yX9_about]
abbrev g_tables_1_3 : List Cond := gT30 ++ (gT31 ++ (gT32 ++ (gT33 ++ (gT34 ++ (gT35 ++ (gT36 ++ (gT37 ++ (gT38 ++ (gT39 ++ (gT40 ++ (gT41 ++ (gT42 ++ (gT43 ++ (gT44 ++ (([] : List Cond))))))))))))))))
set_option maxRecDepth 100000 in
theorem e_tables_1_3 : tables_1_3 = g_tables_1_3 := rfl
abbrev gT45 : List Cond := [Cond.instanceMethod yX9_about, Cond.selects RX9 yX9_about yX9_about, Cond.code yX9_about cX9_about 3 (some .int), Cond.methodLink RX9 113 yX9_balls, Cond.privateMethod yX9_balls, Cond.instanceMethod yX9_balls, Cond.code yX9_balls cX9_balls 2 (some .int), Cond.methodLink RX9 110 yX9_isEven, Cond.privateMethod yX9_isEven, Cond.instanceMethod yX9_isEven, Cond.code yX9_isEven cX9_isEven 4 (some .boolean), Cond.methodLink RX9 107 yX9_addedSum, Cond.privateMethod yX9_addedSum, Cond.instanceMethod yX9_addedSum, Cond.code yX9_addedSum cX9_addedSum 5 (some .int), Cond.methodLink RX9 117 yX9_isLike]
abbrev gT46 : List Cond := [Cond.privateMethod yX9_isLike, Cond.instanceMethod yX9_isLike, Cond.code yX9_isLike cX9_isLike 5 (some .boolean), Cond.methodLink RL 64 yX9_added, Cond.instanceMethod yX9_added, Cond.selects RX9 yX9_added yX9_added, Cond.code yX9_added cX9_added 4 (some .int), Cond.methodLink RL 68 yX9_draw, Cond.instanceMethod yX9_draw, Cond.selects RX9 yX9_draw yX9_draw, Cond.code yX9_draw cX9_draw 3 (some .int), Cond.methodLink RX9 120 yX9_canDraw, Cond.privateMethod yX9_canDraw, Cond.instanceMethod yX9_canDraw, Cond.code yX9_canDraw cX9_canDraw 5 (some .boolean), Cond.methodLink RX9 123 yX9_draws]
abbrev gT47 : List Cond := [Cond.privateMethod yX9_draws, Cond.instanceMethod yX9_draws, Cond.code yX9_draws cX9_draws 4 none, Cond.methodLink RL 72 yX9_seed, Cond.instanceMethod yX9_seed, Cond.selects RX9 yX9_seed yX9_seed, Cond.code yX9_seed cX9_seed 2 (some .int), Cond.constantLong RX9 127 (2147483646), Cond.methodLink RL 76 yX9_drawn, Cond.instanceMethod yX9_drawn, Cond.selects RX9 yX9_drawn yX9_drawn, Cond.code yX9_drawn cX9_drawn 2 (some .int), Cond.methodLink RX9 141 yX9_looks, Cond.privateMethod yX9_looks, Cond.instanceMethod yX9_looks, Cond.code yX9_looks cX9_looks 7 (some .boolean)]
abbrev gT48 : List Cond := [Cond.constantLong RX9 135 (48271), Cond.constantLong RX9 137 (11), Cond.constantLong RX9 139 (2147483647), Cond.methodLink RX9 144 yX9_doesDraws, Cond.privateMethod yX9_doesDraws, Cond.instanceMethod yX9_doesDraws, Cond.code yX9_doesDraws cX9_doesDraws 3 (some .int), Cond.methodLink RL 80 yX9_shake, Cond.instanceMethod yX9_shake, Cond.selects RX9 yX9_shake yX9_shake, Cond.code yX9_shake cX9_shake 5 (some .int), Cond.constantLong RX9 148 (50), Cond.methodLink RL 85 yX9_undo, Cond.instanceMethod yX9_undo, Cond.selects RX9 yX9_undo yX9_undo, Cond.code yX9_undo cX9_undo 2 (some .int)]
abbrev gT49 : List Cond := [Cond.methodLink RL 122 yX9_part, Cond.instanceMethod yX9_part, Cond.selects RX9 yX9_part yX9_part, Cond.code yX9_part cX9_part 2 (some .long), Cond.methodLink RL 89 yX9_chance, Cond.instanceMethod yX9_chance, Cond.selects RX9 yX9_chance yX9_chance, Cond.code yX9_chance cX9_chance 5 (some .int), Cond.constantLong RX9 168 (12), Cond.methodLink RX9 170 yX9_follows, Cond.privateMethod yX9_follows, Cond.instanceMethod yX9_follows, Cond.code yX9_follows cX9_follows 18 (some .boolean), Cond.methodLink RX9 150 yX9_common, Cond.static yX9_common, Cond.code yX9_common cX9_common 10 (some .long)]
abbrev gT50 : List Cond := [Cond.constantLong RX9 166 (1000000000000000000), Cond.methodLink RX9 174 yX9_tells, Cond.privateMethod yX9_tells, Cond.instanceMethod yX9_tells, Cond.code yX9_tells cX9_tells 7 (some .int), Cond.methodLink RL 93 yX9_times, Cond.instanceMethod yX9_times, Cond.selects RX9 yX9_times yX9_times, Cond.code yX9_times cX9_times 9 (some .int), Cond.methodLink RX9 200 yX9_isAsked, Cond.privateMethod yX9_isAsked, Cond.instanceMethod yX9_isAsked, Cond.code yX9_isAsked cX9_isAsked 3 (some .boolean), Cond.methodLink RX9 203 yX9_evenFault, Cond.privateMethod yX9_evenFault, Cond.instanceMethod yX9_evenFault]
abbrev gT51 : List Cond := [Cond.code yX9_evenFault cX9_evenFault 6 (some .int), Cond.constantLong RX9 181 (10000000000000000), Cond.methodLink RX9 206 yX9_goes, Cond.privateMethod yX9_goes, Cond.instanceMethod yX9_goes, Cond.code yX9_goes cX9_goes 13 none, Cond.methodLink RX9 186 yX9_at, Cond.static yX9_at, Cond.code yX9_at cX9_at 2 (some .int), Cond.methodLink RX9 189 yX9_looksAt, Cond.privateMethod yX9_looksAt, Cond.instanceMethod yX9_looksAt, Cond.code yX9_looksAt cX9_looksAt 6 none, Cond.methodLink RX9 193 yX9_spreads, Cond.privateMethod yX9_spreads, Cond.instanceMethod yX9_spreads]
abbrev gT52 : List Cond := [Cond.code yX9_spreads cX9_spreads 15 none, Cond.methodLink RX9 197 yX9_more, Cond.static yX9_more, Cond.code yX9_more cX9_more 2 (some .int), Cond.methodLink RL 97 yX9_left, Cond.instanceMethod yX9_left, Cond.selects RX9 yX9_left yX9_left, Cond.code yX9_left cX9_left 9 (some .int), Cond.constantLong RX9 210 (400), Cond.methodLink RL 101 yX9_stuck, Cond.instanceMethod yX9_stuck, Cond.selects RX9 yX9_stuck yX9_stuck, Cond.code yX9_stuck cX9_stuck 4 (some .int), Cond.methodLink RL 105 yX9_mean, Cond.instanceMethod yX9_mean, Cond.selects RX9 yX9_mean yX9_mean]
abbrev gT53 : List Cond := [Cond.code yX9_mean cX9_mean 16 (some .int), Cond.constantLong RX9 212 (3), Cond.methodLink RL 109 yX9_told, Cond.instanceMethod yX9_told, Cond.selects RX9 yX9_told yX9_told, Cond.code yX9_told cX9_told 9 (some .int), Cond.methodLink RX9 214 yX9_sum, Cond.privateMethod yX9_sum, Cond.instanceMethod yX9_sum, Cond.code yX9_sum cX9_sum 5 (some .long), Cond.methodLink RL 113 yX9_share, Cond.instanceMethod yX9_share, Cond.selects RX9 yX9_share yX9_share, Cond.code yX9_share cX9_share 10 (some .int), Cond.methodLink RL 117 yX9_free, Cond.instanceMethod yX9_free]
abbrev gT54 : List Cond := [Cond.selects RX9 yX9_free yX9_free, Cond.code yX9_free cX9_free 9 (some .int), Cond.methodLink RL 126 yX9_count, Cond.instanceMethod yX9_count, Cond.selects RX9 yX9_count yX9_count, Cond.code yX9_count cX9_count 2 (some .int), Cond.constantLong RL 18 (4294967295)]
abbrev g_tables_1_4 : List Cond := gT45 ++ (gT46 ++ (gT47 ++ (gT48 ++ (gT49 ++ (gT50 ++ (gT51 ++ (gT52 ++ (gT53 ++ (gT54 ++ (([] : List Cond)))))))))))
set_option maxRecDepth 100000 in
theorem e_tables_1_4 : tables_1_4 = g_tables_1_4 := rfl
theorem t_tables_1_1 {w : Cond} (h : w ∈ g_tables_1_1) : w ∈ tables_1 := by
  rw [← e_tables_1_1] at h
  exact List.mem_append_left _ h
theorem t_tables_1_2 {w : Cond} (h : w ∈ g_tables_1_2) : w ∈ tables_1 := by
  rw [← e_tables_1_2] at h
  exact List.mem_append_right _ (List.mem_append_left _ h)
theorem t_tables_1_3 {w : Cond} (h : w ∈ g_tables_1_3) : w ∈ tables_1 := by
  rw [← e_tables_1_3] at h
  exact List.mem_append_right _ (List.mem_append_right _ (List.mem_append_left _ h))
theorem t_tables_1_4 {w : Cond} (h : w ∈ g_tables_1_4) : w ∈ tables_1 := by
  rw [← e_tables_1_4] at h
  exact List.mem_append_right _ (List.mem_append_right _ (List.mem_append_right _ (h)))
def gWs : List Cond := lw_tbl.filter goodWord
theorem gWs_in : ∀ w ∈ gWs, w ∈ lw_tbl := fun _ h => (List.mem_filter.mp h).1
theorem gWs_good : GoodIn gWs gWs := fun w h => ⟨h, good_of_word (List.mem_filter.mp h).2⟩
theorem gWs_tab {w : Cond} (h : w ∈ tables_1) (hg : goodWord w = true) : w ∈ gWs := List.mem_filter.mpr ⟨List.mem_append_right _ h, hg⟩
theorem gWs_prv {w : Cond} (i : Nat) (h : (k2_sels lw_privs)[i]? = some w) (hg : goodWord w = true) : w ∈ gWs := List.mem_filter.mpr ⟨List.mem_append_left _ (List.mem_of_getElem? h), hg⟩
theorem c_gT0 {w : Cond} (h : w ∈ gT0) : w ∈ tables_1 := t_tables_1_1 (List.mem_append_left _ h)
theorem mW0 : Cond.initialized RL ∈ gWs := gWs_tab (c_gT0 (List.mem_cons_self)) rfl
theorem mW1 : Cond.initialized RX8 ∈ gWs := gWs_tab (c_gT0 (List.mem_cons_of_mem _ (List.mem_cons_self))) rfl
theorem mW2 : Cond.initialized RX2 ∈ gWs := gWs_tab (c_gT0 (List.mem_cons_of_mem _ (List.mem_cons_of_mem _ (List.mem_cons_self)))) rfl
theorem mW3 : Cond.initialized RX4 ∈ gWs := gWs_tab (c_gT0 (List.mem_cons_of_mem _ (List.mem_cons_of_mem _ (List.mem_cons_of_mem _ (List.mem_cons_self))))) rfl
theorem mW4 : Cond.initialized RX5 ∈ gWs := gWs_tab (c_gT0 (List.mem_cons_of_mem _ (List.mem_cons_of_mem _ (List.mem_cons_of_mem _ (List.mem_cons_of_mem _ (List.mem_cons_self)))))) rfl
theorem mW5 : Cond.initialized RX3 ∈ gWs := gWs_tab (c_gT0 (List.mem_cons_of_mem _ (List.mem_cons_of_mem _ (List.mem_cons_of_mem _ (List.mem_cons_of_mem _ (List.mem_cons_of_mem _ (List.mem_cons_self))))))) rfl
theorem mW6 : Cond.initialized RX0 ∈ gWs := gWs_tab (c_gT0 (List.mem_cons_of_mem _ (List.mem_cons_of_mem _ (List.mem_cons_of_mem _ (List.mem_cons_of_mem _ (List.mem_cons_of_mem _ (List.mem_cons_of_mem _ (List.mem_cons_self)))))))) rfl
theorem mW7 : Cond.initialized RX1 ∈ gWs := gWs_tab (c_gT0 (List.mem_cons_of_mem _ (List.mem_cons_of_mem _ (List.mem_cons_of_mem _ (List.mem_cons_of_mem _ (List.mem_cons_of_mem _ (List.mem_cons_of_mem _ (List.mem_cons_of_mem _ (List.mem_cons_self))))))))) rfl
theorem mW8 : Cond.initialized RX6 ∈ gWs := gWs_tab (c_gT0 (List.mem_cons_of_mem _ (List.mem_cons_of_mem _ (List.mem_cons_of_mem _ (List.mem_cons_of_mem _ (List.mem_cons_of_mem _ (List.mem_cons_of_mem _ (List.mem_cons_of_mem _ (List.mem_cons_of_mem _ (List.mem_cons_self)))))))))) rfl
theorem mW9 : Cond.initialized RX7 ∈ gWs := gWs_tab (c_gT0 (List.mem_cons_of_mem _ (List.mem_cons_of_mem _ (List.mem_cons_of_mem _ (List.mem_cons_of_mem _ (List.mem_cons_of_mem _ (List.mem_cons_of_mem _ (List.mem_cons_of_mem _ (List.mem_cons_of_mem _ (List.mem_cons_of_mem _ (List.mem_cons_self))))))))))) rfl
theorem mW10 : Cond.initialized RJ7 ∈ gWs := gWs_tab (c_gT0 (List.mem_cons_of_mem _ (List.mem_cons_of_mem _ (List.mem_cons_of_mem _ (List.mem_cons_of_mem _ (List.mem_cons_of_mem _ (List.mem_cons_of_mem _ (List.mem_cons_of_mem _ (List.mem_cons_of_mem _ (List.mem_cons_of_mem _ (List.mem_cons_of_mem _ (List.mem_cons_self)))))))))))) rfl
theorem mW11 : Cond.initialized RX9 ∈ gWs := gWs_tab (c_gT0 (List.mem_cons_of_mem _ (List.mem_cons_of_mem _ (List.mem_cons_of_mem _ (List.mem_cons_of_mem _ (List.mem_cons_of_mem _ (List.mem_cons_of_mem _ (List.mem_cons_of_mem _ (List.mem_cons_of_mem _ (List.mem_cons_of_mem _ (List.mem_cons_of_mem _ (List.mem_cons_of_mem _ (List.mem_cons_self))))))))))))) rfl
theorem mW12 : Cond.initialized RJ10 ∈ gWs := gWs_tab (c_gT0 (List.mem_cons_of_mem _ (List.mem_cons_of_mem _ (List.mem_cons_of_mem _ (List.mem_cons_of_mem _ (List.mem_cons_of_mem _ (List.mem_cons_of_mem _ (List.mem_cons_of_mem _ (List.mem_cons_of_mem _ (List.mem_cons_of_mem _ (List.mem_cons_of_mem _ (List.mem_cons_of_mem _ (List.mem_cons_of_mem _ (List.mem_cons_self)))))))))))))) rfl
theorem mW13 : Cond.classLink RL 7 RX8 ∈ gWs := gWs_tab (c_gT0 (List.mem_cons_of_mem _ (List.mem_cons_of_mem _ (List.mem_cons_of_mem _ (List.mem_cons_of_mem _ (List.mem_cons_of_mem _ (List.mem_cons_of_mem _ (List.mem_cons_of_mem _ (List.mem_cons_of_mem _ (List.mem_cons_of_mem _ (List.mem_cons_of_mem _ (List.mem_cons_of_mem _ (List.mem_cons_of_mem _ (List.mem_cons_of_mem _ (List.mem_cons_self))))))))))))))) rfl
theorem mW14 : Cond.instantiable RX8 10 ∈ gWs := gWs_tab (c_gT0 (List.mem_cons_of_mem _ (List.mem_cons_of_mem _ (List.mem_cons_of_mem _ (List.mem_cons_of_mem _ (List.mem_cons_of_mem _ (List.mem_cons_of_mem _ (List.mem_cons_of_mem _ (List.mem_cons_of_mem _ (List.mem_cons_of_mem _ (List.mem_cons_of_mem _ (List.mem_cons_of_mem _ (List.mem_cons_of_mem _ (List.mem_cons_of_mem _ (List.mem_cons_of_mem _ (List.mem_cons_self)))))))))))))))) rfl
theorem mW15 : Cond.methodLink RL 9 yX8_init ∈ gWs := gWs_tab (c_gT0 (List.mem_cons_of_mem _ (List.mem_cons_of_mem _ (List.mem_cons_of_mem _ (List.mem_cons_of_mem _ (List.mem_cons_of_mem _ (List.mem_cons_of_mem _ (List.mem_cons_of_mem _ (List.mem_cons_of_mem _ (List.mem_cons_of_mem _ (List.mem_cons_of_mem _ (List.mem_cons_of_mem _ (List.mem_cons_of_mem _ (List.mem_cons_of_mem _ (List.mem_cons_of_mem _ (List.mem_cons_of_mem _ (List.mem_cons_self))))))))))))))))) rfl
theorem c_gT1 {w : Cond} (h : w ∈ gT1) : w ∈ tables_1 := t_tables_1_1 (List.mem_append_right _ (List.mem_append_left _ h))
theorem mW16 : Cond.instanceMethod yX8_init ∈ gWs := gWs_tab (c_gT1 (List.mem_cons_self)) rfl
theorem mW17 : Cond.code yX8_init cX8_init 2 none ∈ gWs := gWs_tab (c_gT1 (List.mem_cons_of_mem _ (List.mem_cons_self))) rfl
theorem mW18 : Cond.methodLink RX8 3 objectInit ∈ gWs := gWs_tab (c_gT1 (List.mem_cons_of_mem _ (List.mem_cons_of_mem _ (List.mem_cons_self)))) rfl
theorem mW19 : Cond.instanceMethod objectInit ∈ gWs := gWs_tab (c_gT1 (List.mem_cons_of_mem _ (List.mem_cons_of_mem _ (List.mem_cons_of_mem _ (List.mem_cons_self))))) rfl
theorem mW20 : Cond.code objectInit object_method_1_code 1 none ∈ gWs := gWs_tab (c_gT1 (List.mem_cons_of_mem _ (List.mem_cons_of_mem _ (List.mem_cons_of_mem _ (List.mem_cons_of_mem _ (List.mem_cons_self)))))) rfl
theorem mW21 : Cond.classLink RX8 9 RX6 ∈ gWs := gWs_tab (c_gT1 (List.mem_cons_of_mem _ (List.mem_cons_of_mem _ (List.mem_cons_of_mem _ (List.mem_cons_of_mem _ (List.mem_cons_of_mem _ (List.mem_cons_self))))))) rfl
theorem mW22 : Cond.arrayOver (.object "GrowingUrns$Sheet") ∈ lw_tbl := List.mem_append_right _ (c_gT1 (List.mem_cons_of_mem _ (List.mem_cons_of_mem _ (List.mem_cons_of_mem _ (List.mem_cons_of_mem _ (List.mem_cons_of_mem _ (List.mem_cons_of_mem _ (List.mem_cons_self))))))))
theorem mW23 : Cond.classLink RX8 15 RX7 ∈ gWs := gWs_tab (c_gT1 (List.mem_cons_of_mem _ (List.mem_cons_of_mem _ (List.mem_cons_of_mem _ (List.mem_cons_of_mem _ (List.mem_cons_of_mem _ (List.mem_cons_of_mem _ (List.mem_cons_of_mem _ (List.mem_cons_self))))))))) rfl
theorem mW24 : Cond.arrayOver (.object "GrowingUrns$Urn") ∈ lw_tbl := List.mem_append_right _ (c_gT1 (List.mem_cons_of_mem _ (List.mem_cons_of_mem _ (List.mem_cons_of_mem _ (List.mem_cons_of_mem _ (List.mem_cons_of_mem _ (List.mem_cons_of_mem _ (List.mem_cons_of_mem _ (List.mem_cons_of_mem _ (List.mem_cons_self))))))))))
theorem mW25 : Cond.classLink RX8 21 RX2 ∈ gWs := gWs_tab (c_gT1 (List.mem_cons_of_mem _ (List.mem_cons_of_mem _ (List.mem_cons_of_mem _ (List.mem_cons_of_mem _ (List.mem_cons_of_mem _ (List.mem_cons_of_mem _ (List.mem_cons_of_mem _ (List.mem_cons_of_mem _ (List.mem_cons_of_mem _ (List.mem_cons_self))))))))))) rfl
theorem mW26 : Cond.instantiable RX2 3 ∈ gWs := gWs_tab (c_gT1 (List.mem_cons_of_mem _ (List.mem_cons_of_mem _ (List.mem_cons_of_mem _ (List.mem_cons_of_mem _ (List.mem_cons_of_mem _ (List.mem_cons_of_mem _ (List.mem_cons_of_mem _ (List.mem_cons_of_mem _ (List.mem_cons_of_mem _ (List.mem_cons_of_mem _ (List.mem_cons_self)))))))))))) rfl
theorem mW27 : Cond.methodLinkNest RX8 23 yX2_init RX8 ∈ lw_tbl := List.mem_append_right _ (c_gT1 (List.mem_cons_of_mem _ (List.mem_cons_of_mem _ (List.mem_cons_of_mem _ (List.mem_cons_of_mem _ (List.mem_cons_of_mem _ (List.mem_cons_of_mem _ (List.mem_cons_of_mem _ (List.mem_cons_of_mem _ (List.mem_cons_of_mem _ (List.mem_cons_of_mem _ (List.mem_cons_of_mem _ (List.mem_cons_self)))))))))))))
theorem mW28 : Cond.instanceMethod yX2_init ∈ gWs := gWs_tab (c_gT1 (List.mem_cons_of_mem _ (List.mem_cons_of_mem _ (List.mem_cons_of_mem _ (List.mem_cons_of_mem _ (List.mem_cons_of_mem _ (List.mem_cons_of_mem _ (List.mem_cons_of_mem _ (List.mem_cons_of_mem _ (List.mem_cons_of_mem _ (List.mem_cons_of_mem _ (List.mem_cons_of_mem _ (List.mem_cons_of_mem _ (List.mem_cons_self)))))))))))))) rfl
theorem mW29 : Cond.code yX2_init cX2_init 1 none ∈ gWs := gWs_tab (c_gT1 (List.mem_cons_of_mem _ (List.mem_cons_of_mem _ (List.mem_cons_of_mem _ (List.mem_cons_of_mem _ (List.mem_cons_of_mem _ (List.mem_cons_of_mem _ (List.mem_cons_of_mem _ (List.mem_cons_of_mem _ (List.mem_cons_of_mem _ (List.mem_cons_of_mem _ (List.mem_cons_of_mem _ (List.mem_cons_of_mem _ (List.mem_cons_of_mem _ (List.mem_cons_self))))))))))))))) rfl
theorem mW30 : Cond.methodLink RX2 3 objectInit ∈ gWs := gWs_tab (c_gT1 (List.mem_cons_of_mem _ (List.mem_cons_of_mem _ (List.mem_cons_of_mem _ (List.mem_cons_of_mem _ (List.mem_cons_of_mem _ (List.mem_cons_of_mem _ (List.mem_cons_of_mem _ (List.mem_cons_of_mem _ (List.mem_cons_of_mem _ (List.mem_cons_of_mem _ (List.mem_cons_of_mem _ (List.mem_cons_of_mem _ (List.mem_cons_of_mem _ (List.mem_cons_of_mem _ (List.mem_cons_self)))))))))))))))) rfl
theorem mW31 : Cond.classLink RX2 9 "[[I" ∈ gWs := gWs_tab (c_gT1 (List.mem_cons_of_mem _ (List.mem_cons_of_mem _ (List.mem_cons_of_mem _ (List.mem_cons_of_mem _ (List.mem_cons_of_mem _ (List.mem_cons_of_mem _ (List.mem_cons_of_mem _ (List.mem_cons_of_mem _ (List.mem_cons_of_mem _ (List.mem_cons_of_mem _ (List.mem_cons_of_mem _ (List.mem_cons_of_mem _ (List.mem_cons_of_mem _ (List.mem_cons_of_mem _ (List.mem_cons_of_mem _ (List.mem_cons_self))))))))))))))))) rfl
theorem c_gT2 {w : Cond} (h : w ∈ gT2) : w ∈ tables_1 := t_tables_1_1 (List.mem_append_right _ (List.mem_append_right _ (List.mem_append_left _ h)))
theorem mW32 : Cond.arrayOver (.array .int) ∈ lw_tbl := List.mem_append_right _ (c_gT2 (List.mem_cons_self))
theorem mW33 : Cond.fieldLink RX2 11 "GrowingUrns$Kept" "rows" "[[I" ∈ gWs := gWs_tab (c_gT2 (List.mem_cons_of_mem _ (List.mem_cons_self))) rfl
theorem mW34 : Cond.fieldLink RX2 16 "GrowingUrns$Kept" "length" "I" ∈ gWs := gWs_tab (c_gT2 (List.mem_cons_of_mem _ (List.mem_cons_of_mem _ (List.mem_cons_self)))) rfl
theorem mW35 : Cond.fieldLink RX8 251 "GrowingUrns$Kept" "length" "I" ∈ gWs := gWs_tab (c_gT2 (List.mem_cons_of_mem _ (List.mem_cons_of_mem _ (List.mem_cons_of_mem _ (List.mem_cons_self))))) rfl
theorem mW36 : Cond.fieldLink RX2 20 "GrowingUrns$Kept" "next" "I" ∈ gWs := gWs_tab (c_gT2 (List.mem_cons_of_mem _ (List.mem_cons_of_mem _ (List.mem_cons_of_mem _ (List.mem_cons_of_mem _ (List.mem_cons_self)))))) rfl
theorem mW37 : Cond.laysFinal RX2 "GrowingUrns$Kept" "rows" "[[I" ∈ gWs := gWs_tab (c_gT2 (List.mem_cons_of_mem _ (List.mem_cons_of_mem _ (List.mem_cons_of_mem _ (List.mem_cons_of_mem _ (List.mem_cons_of_mem _ (List.mem_cons_self))))))) rfl
theorem mW39 : Cond.lays RX2 "GrowingUrns$Kept" "length" "I" ∈ gWs := gWs_tab (c_gT2 (List.mem_cons_of_mem _ (List.mem_cons_of_mem _ (List.mem_cons_of_mem _ (List.mem_cons_of_mem _ (List.mem_cons_of_mem _ (List.mem_cons_of_mem _ (List.mem_cons_of_mem _ (List.mem_cons_self))))))))) rfl
theorem mW41 : Cond.lays RX2 "GrowingUrns$Kept" "next" "I" ∈ gWs := gWs_tab (c_gT2 (List.mem_cons_of_mem _ (List.mem_cons_of_mem _ (List.mem_cons_of_mem _ (List.mem_cons_of_mem _ (List.mem_cons_of_mem _ (List.mem_cons_of_mem _ (List.mem_cons_of_mem _ (List.mem_cons_of_mem _ (List.mem_cons_of_mem _ (List.mem_cons_self))))))))))) rfl
theorem mW44 : Cond.arrayClass .int ∈ lw_tbl := List.mem_append_right _ (c_gT2 (List.mem_cons_of_mem _ (List.mem_cons_of_mem _ (List.mem_cons_of_mem _ (List.mem_cons_of_mem _ (List.mem_cons_of_mem _ (List.mem_cons_of_mem _ (List.mem_cons_of_mem _ (List.mem_cons_of_mem _ (List.mem_cons_of_mem _ (List.mem_cons_of_mem _ (List.mem_cons_of_mem _ (List.mem_cons_of_mem _ (List.mem_cons_self))))))))))))))
theorem mW45 : Cond.classLink RX8 28 RX4 ∈ gWs := gWs_tab (c_gT2 (List.mem_cons_of_mem _ (List.mem_cons_of_mem _ (List.mem_cons_of_mem _ (List.mem_cons_of_mem _ (List.mem_cons_of_mem _ (List.mem_cons_of_mem _ (List.mem_cons_of_mem _ (List.mem_cons_of_mem _ (List.mem_cons_of_mem _ (List.mem_cons_of_mem _ (List.mem_cons_of_mem _ (List.mem_cons_of_mem _ (List.mem_cons_of_mem _ (List.mem_cons_self))))))))))))))) rfl
theorem mW46 : Cond.instantiable RX4 4 ∈ gWs := gWs_tab (c_gT2 (List.mem_cons_of_mem _ (List.mem_cons_of_mem _ (List.mem_cons_of_mem _ (List.mem_cons_of_mem _ (List.mem_cons_of_mem _ (List.mem_cons_of_mem _ (List.mem_cons_of_mem _ (List.mem_cons_of_mem _ (List.mem_cons_of_mem _ (List.mem_cons_of_mem _ (List.mem_cons_of_mem _ (List.mem_cons_of_mem _ (List.mem_cons_of_mem _ (List.mem_cons_of_mem _ (List.mem_cons_self)))))))))))))))) rfl
theorem mW47 : Cond.methodLinkNest RX8 30 yX4_init RX8 ∈ lw_tbl := List.mem_append_right _ (c_gT2 (List.mem_cons_of_mem _ (List.mem_cons_of_mem _ (List.mem_cons_of_mem _ (List.mem_cons_of_mem _ (List.mem_cons_of_mem _ (List.mem_cons_of_mem _ (List.mem_cons_of_mem _ (List.mem_cons_of_mem _ (List.mem_cons_of_mem _ (List.mem_cons_of_mem _ (List.mem_cons_of_mem _ (List.mem_cons_of_mem _ (List.mem_cons_of_mem _ (List.mem_cons_of_mem _ (List.mem_cons_of_mem _ (List.mem_cons_self)))))))))))))))))
theorem c_gT3 {w : Cond} (h : w ∈ gT3) : w ∈ tables_1 := t_tables_1_1 (List.mem_append_right _ (List.mem_append_right _ (List.mem_append_right _ (List.mem_append_left _ h))))
theorem mW48 : Cond.instanceMethod yX4_init ∈ gWs := gWs_tab (c_gT3 (List.mem_cons_self)) rfl
theorem mW49 : Cond.code yX4_init cX4_init 1 none ∈ gWs := gWs_tab (c_gT3 (List.mem_cons_of_mem _ (List.mem_cons_self))) rfl
theorem mW50 : Cond.methodLink RX4 3 objectInit ∈ gWs := gWs_tab (c_gT3 (List.mem_cons_of_mem _ (List.mem_cons_of_mem _ (List.mem_cons_self)))) rfl
theorem mW51 : Cond.fieldLink RX4 9 "GrowingUrns$Path" "urns" "[I" ∈ gWs := gWs_tab (c_gT3 (List.mem_cons_of_mem _ (List.mem_cons_of_mem _ (List.mem_cons_of_mem _ (List.mem_cons_self))))) rfl
theorem mW52 : Cond.fieldLink RX8 274 "GrowingUrns$Path" "urns" "[I" ∈ gWs := gWs_tab (c_gT3 (List.mem_cons_of_mem _ (List.mem_cons_of_mem _ (List.mem_cons_of_mem _ (List.mem_cons_of_mem _ (List.mem_cons_self)))))) rfl
theorem mW53 : Cond.fieldLink RX4 15 "GrowingUrns$Path" "colours" "[I" ∈ gWs := gWs_tab (c_gT3 (List.mem_cons_of_mem _ (List.mem_cons_of_mem _ (List.mem_cons_of_mem _ (List.mem_cons_of_mem _ (List.mem_cons_of_mem _ (List.mem_cons_self))))))) rfl
theorem mW54 : Cond.fieldLink RX8 165 "GrowingUrns$Path" "colours" "[I" ∈ gWs := gWs_tab (c_gT3 (List.mem_cons_of_mem _ (List.mem_cons_of_mem _ (List.mem_cons_of_mem _ (List.mem_cons_of_mem _ (List.mem_cons_of_mem _ (List.mem_cons_of_mem _ (List.mem_cons_self)))))))) rfl
theorem mW55 : Cond.fieldLink RX4 18 "GrowingUrns$Path" "length" "I" ∈ gWs := gWs_tab (c_gT3 (List.mem_cons_of_mem _ (List.mem_cons_of_mem _ (List.mem_cons_of_mem _ (List.mem_cons_of_mem _ (List.mem_cons_of_mem _ (List.mem_cons_of_mem _ (List.mem_cons_of_mem _ (List.mem_cons_self))))))))) rfl
theorem mW56 : Cond.fieldLink RX8 162 "GrowingUrns$Path" "length" "I" ∈ gWs := gWs_tab (c_gT3 (List.mem_cons_of_mem _ (List.mem_cons_of_mem _ (List.mem_cons_of_mem _ (List.mem_cons_of_mem _ (List.mem_cons_of_mem _ (List.mem_cons_of_mem _ (List.mem_cons_of_mem _ (List.mem_cons_of_mem _ (List.mem_cons_self)))))))))) rfl
theorem mW57 : Cond.fieldLink RX4 22 "GrowingUrns$Path" "seed" "J" ∈ gWs := gWs_tab (c_gT3 (List.mem_cons_of_mem _ (List.mem_cons_of_mem _ (List.mem_cons_of_mem _ (List.mem_cons_of_mem _ (List.mem_cons_of_mem _ (List.mem_cons_of_mem _ (List.mem_cons_of_mem _ (List.mem_cons_of_mem _ (List.mem_cons_of_mem _ (List.mem_cons_self))))))))))) rfl
theorem mW58 : Cond.fieldLink RX8 261 "GrowingUrns$Path" "seed" "J" ∈ gWs := gWs_tab (c_gT3 (List.mem_cons_of_mem _ (List.mem_cons_of_mem _ (List.mem_cons_of_mem _ (List.mem_cons_of_mem _ (List.mem_cons_of_mem _ (List.mem_cons_of_mem _ (List.mem_cons_of_mem _ (List.mem_cons_of_mem _ (List.mem_cons_of_mem _ (List.mem_cons_of_mem _ (List.mem_cons_self)))))))))))) rfl
theorem mW59 : Cond.laysFinal RX4 "GrowingUrns$Path" "urns" "[I" ∈ gWs := gWs_tab (c_gT3 (List.mem_cons_of_mem _ (List.mem_cons_of_mem _ (List.mem_cons_of_mem _ (List.mem_cons_of_mem _ (List.mem_cons_of_mem _ (List.mem_cons_of_mem _ (List.mem_cons_of_mem _ (List.mem_cons_of_mem _ (List.mem_cons_of_mem _ (List.mem_cons_of_mem _ (List.mem_cons_of_mem _ (List.mem_cons_self))))))))))))) rfl
theorem mW61 : Cond.laysFinal RX4 "GrowingUrns$Path" "colours" "[I" ∈ gWs := gWs_tab (c_gT3 (List.mem_cons_of_mem _ (List.mem_cons_of_mem _ (List.mem_cons_of_mem _ (List.mem_cons_of_mem _ (List.mem_cons_of_mem _ (List.mem_cons_of_mem _ (List.mem_cons_of_mem _ (List.mem_cons_of_mem _ (List.mem_cons_of_mem _ (List.mem_cons_of_mem _ (List.mem_cons_of_mem _ (List.mem_cons_of_mem _ (List.mem_cons_of_mem _ (List.mem_cons_self))))))))))))))) rfl
theorem mW63 : Cond.lays RX4 "GrowingUrns$Path" "length" "I" ∈ gWs := gWs_tab (c_gT3 (List.mem_cons_of_mem _ (List.mem_cons_of_mem _ (List.mem_cons_of_mem _ (List.mem_cons_of_mem _ (List.mem_cons_of_mem _ (List.mem_cons_of_mem _ (List.mem_cons_of_mem _ (List.mem_cons_of_mem _ (List.mem_cons_of_mem _ (List.mem_cons_of_mem _ (List.mem_cons_of_mem _ (List.mem_cons_of_mem _ (List.mem_cons_of_mem _ (List.mem_cons_of_mem _ (List.mem_cons_of_mem _ (List.mem_cons_self))))))))))))))))) rfl
theorem c_gT4 {w : Cond} (h : w ∈ gT4) : w ∈ tables_1 := t_tables_1_1 (List.mem_append_right _ (List.mem_append_right _ (List.mem_append_right _ (List.mem_append_right _ (List.mem_append_left _ h)))))
theorem mW65 : Cond.lays RX4 "GrowingUrns$Path" "seed" "J" ∈ gWs := gWs_tab (c_gT4 (List.mem_cons_of_mem _ (List.mem_cons_self))) rfl
theorem mW68 : Cond.classLink RX8 35 RX5 ∈ gWs := gWs_tab (c_gT4 (List.mem_cons_of_mem _ (List.mem_cons_of_mem _ (List.mem_cons_of_mem _ (List.mem_cons_of_mem _ (List.mem_cons_self)))))) rfl
theorem mW69 : Cond.instantiable RX5 3 ∈ gWs := gWs_tab (c_gT4 (List.mem_cons_of_mem _ (List.mem_cons_of_mem _ (List.mem_cons_of_mem _ (List.mem_cons_of_mem _ (List.mem_cons_of_mem _ (List.mem_cons_self))))))) rfl
theorem mW70 : Cond.methodLinkNest RX8 37 yX5_init RX8 ∈ lw_tbl := List.mem_append_right _ (c_gT4 (List.mem_cons_of_mem _ (List.mem_cons_of_mem _ (List.mem_cons_of_mem _ (List.mem_cons_of_mem _ (List.mem_cons_of_mem _ (List.mem_cons_of_mem _ (List.mem_cons_self))))))))
theorem mW71 : Cond.instanceMethod yX5_init ∈ gWs := gWs_tab (c_gT4 (List.mem_cons_of_mem _ (List.mem_cons_of_mem _ (List.mem_cons_of_mem _ (List.mem_cons_of_mem _ (List.mem_cons_of_mem _ (List.mem_cons_of_mem _ (List.mem_cons_of_mem _ (List.mem_cons_self))))))))) rfl
theorem mW72 : Cond.code yX5_init cX5_init 1 none ∈ gWs := gWs_tab (c_gT4 (List.mem_cons_of_mem _ (List.mem_cons_of_mem _ (List.mem_cons_of_mem _ (List.mem_cons_of_mem _ (List.mem_cons_of_mem _ (List.mem_cons_of_mem _ (List.mem_cons_of_mem _ (List.mem_cons_of_mem _ (List.mem_cons_self)))))))))) rfl
theorem mW73 : Cond.methodLink RX5 3 objectInit ∈ gWs := gWs_tab (c_gT4 (List.mem_cons_of_mem _ (List.mem_cons_of_mem _ (List.mem_cons_of_mem _ (List.mem_cons_of_mem _ (List.mem_cons_of_mem _ (List.mem_cons_of_mem _ (List.mem_cons_of_mem _ (List.mem_cons_of_mem _ (List.mem_cons_of_mem _ (List.mem_cons_self))))))))))) rfl
theorem mW74 : Cond.fieldLink RX5 9 "GrowingUrns$Row" "balls" "[I" ∈ gWs := gWs_tab (c_gT4 (List.mem_cons_of_mem _ (List.mem_cons_of_mem _ (List.mem_cons_of_mem _ (List.mem_cons_of_mem _ (List.mem_cons_of_mem _ (List.mem_cons_of_mem _ (List.mem_cons_of_mem _ (List.mem_cons_of_mem _ (List.mem_cons_of_mem _ (List.mem_cons_of_mem _ (List.mem_cons_self)))))))))))) rfl
theorem mW75 : Cond.fieldLink RX5 15 "GrowingUrns$Row" "above" "J" ∈ gWs := gWs_tab (c_gT4 (List.mem_cons_of_mem _ (List.mem_cons_of_mem _ (List.mem_cons_of_mem _ (List.mem_cons_of_mem _ (List.mem_cons_of_mem _ (List.mem_cons_of_mem _ (List.mem_cons_of_mem _ (List.mem_cons_of_mem _ (List.mem_cons_of_mem _ (List.mem_cons_of_mem _ (List.mem_cons_of_mem _ (List.mem_cons_self))))))))))))) rfl
theorem mW76 : Cond.fieldLink RX3 48 "GrowingUrns$Row" "above" "J" ∈ gWs := gWs_tab (c_gT4 (List.mem_cons_of_mem _ (List.mem_cons_of_mem _ (List.mem_cons_of_mem _ (List.mem_cons_of_mem _ (List.mem_cons_of_mem _ (List.mem_cons_of_mem _ (List.mem_cons_of_mem _ (List.mem_cons_of_mem _ (List.mem_cons_of_mem _ (List.mem_cons_of_mem _ (List.mem_cons_of_mem _ (List.mem_cons_of_mem _ (List.mem_cons_self)))))))))))))) rfl
theorem mW77 : Cond.fieldLink RX8 182 "GrowingUrns$Row" "above" "J" ∈ gWs := gWs_tab (c_gT4 (List.mem_cons_of_mem _ (List.mem_cons_of_mem _ (List.mem_cons_of_mem _ (List.mem_cons_of_mem _ (List.mem_cons_of_mem _ (List.mem_cons_of_mem _ (List.mem_cons_of_mem _ (List.mem_cons_of_mem _ (List.mem_cons_of_mem _ (List.mem_cons_of_mem _ (List.mem_cons_of_mem _ (List.mem_cons_of_mem _ (List.mem_cons_of_mem _ (List.mem_cons_self))))))))))))))) rfl
theorem mW78 : Cond.fieldLink RX5 19 "GrowingUrns$Row" "below" "J" ∈ gWs := gWs_tab (c_gT4 (List.mem_cons_of_mem _ (List.mem_cons_of_mem _ (List.mem_cons_of_mem _ (List.mem_cons_of_mem _ (List.mem_cons_of_mem _ (List.mem_cons_of_mem _ (List.mem_cons_of_mem _ (List.mem_cons_of_mem _ (List.mem_cons_of_mem _ (List.mem_cons_of_mem _ (List.mem_cons_of_mem _ (List.mem_cons_of_mem _ (List.mem_cons_of_mem _ (List.mem_cons_of_mem _ (List.mem_cons_self)))))))))))))))) rfl
theorem mW79 : Cond.fieldLink RX3 52 "GrowingUrns$Row" "below" "J" ∈ gWs := gWs_tab (c_gT4 (List.mem_cons_of_mem _ (List.mem_cons_of_mem _ (List.mem_cons_of_mem _ (List.mem_cons_of_mem _ (List.mem_cons_of_mem _ (List.mem_cons_of_mem _ (List.mem_cons_of_mem _ (List.mem_cons_of_mem _ (List.mem_cons_of_mem _ (List.mem_cons_of_mem _ (List.mem_cons_of_mem _ (List.mem_cons_of_mem _ (List.mem_cons_of_mem _ (List.mem_cons_of_mem _ (List.mem_cons_of_mem _ (List.mem_cons_self))))))))))))))))) rfl
theorem c_gT5 {w : Cond} (h : w ∈ gT5) : w ∈ tables_1 := t_tables_1_1 (List.mem_append_right _ (List.mem_append_right _ (List.mem_append_right _ (List.mem_append_right _ (List.mem_append_right _ (List.mem_append_left _ h))))))
theorem mW80 : Cond.fieldLink RX8 186 "GrowingUrns$Row" "below" "J" ∈ gWs := gWs_tab (c_gT5 (List.mem_cons_self)) rfl
theorem mW81 : Cond.laysFinal RX5 "GrowingUrns$Row" "balls" "[I" ∈ gWs := gWs_tab (c_gT5 (List.mem_cons_of_mem _ (List.mem_cons_self))) rfl
theorem mW83 : Cond.lays RX5 "GrowingUrns$Row" "above" "J" ∈ gWs := gWs_tab (c_gT5 (List.mem_cons_of_mem _ (List.mem_cons_of_mem _ (List.mem_cons_of_mem _ (List.mem_cons_self))))) rfl
theorem mW85 : Cond.lays RX5 "GrowingUrns$Row" "below" "J" ∈ gWs := gWs_tab (c_gT5 (List.mem_cons_of_mem _ (List.mem_cons_of_mem _ (List.mem_cons_of_mem _ (List.mem_cons_of_mem _ (List.mem_cons_of_mem _ (List.mem_cons_self))))))) rfl
theorem mW88 : Cond.classLink RX8 42 RX3 ∈ gWs := gWs_tab (c_gT5 (List.mem_cons_of_mem _ (List.mem_cons_of_mem _ (List.mem_cons_of_mem _ (List.mem_cons_of_mem _ (List.mem_cons_of_mem _ (List.mem_cons_of_mem _ (List.mem_cons_of_mem _ (List.mem_cons_of_mem _ (List.mem_cons_self)))))))))) rfl
theorem mW89 : Cond.instantiable RX3 2 ∈ gWs := gWs_tab (c_gT5 (List.mem_cons_of_mem _ (List.mem_cons_of_mem _ (List.mem_cons_of_mem _ (List.mem_cons_of_mem _ (List.mem_cons_of_mem _ (List.mem_cons_of_mem _ (List.mem_cons_of_mem _ (List.mem_cons_of_mem _ (List.mem_cons_of_mem _ (List.mem_cons_self))))))))))) rfl
theorem mW90 : Cond.methodLinkNest RX8 44 yX3_init RX8 ∈ lw_tbl := List.mem_append_right _ (c_gT5 (List.mem_cons_of_mem _ (List.mem_cons_of_mem _ (List.mem_cons_of_mem _ (List.mem_cons_of_mem _ (List.mem_cons_of_mem _ (List.mem_cons_of_mem _ (List.mem_cons_of_mem _ (List.mem_cons_of_mem _ (List.mem_cons_of_mem _ (List.mem_cons_of_mem _ (List.mem_cons_self))))))))))))
theorem mW91 : Cond.instanceMethod yX3_init ∈ gWs := gWs_tab (c_gT5 (List.mem_cons_of_mem _ (List.mem_cons_of_mem _ (List.mem_cons_of_mem _ (List.mem_cons_of_mem _ (List.mem_cons_of_mem _ (List.mem_cons_of_mem _ (List.mem_cons_of_mem _ (List.mem_cons_of_mem _ (List.mem_cons_of_mem _ (List.mem_cons_of_mem _ (List.mem_cons_of_mem _ (List.mem_cons_self))))))))))))) rfl
theorem mW92 : Cond.code yX3_init cX3_init 1 none ∈ gWs := gWs_tab (c_gT5 (List.mem_cons_of_mem _ (List.mem_cons_of_mem _ (List.mem_cons_of_mem _ (List.mem_cons_of_mem _ (List.mem_cons_of_mem _ (List.mem_cons_of_mem _ (List.mem_cons_of_mem _ (List.mem_cons_of_mem _ (List.mem_cons_of_mem _ (List.mem_cons_of_mem _ (List.mem_cons_of_mem _ (List.mem_cons_of_mem _ (List.mem_cons_self)))))))))))))) rfl
theorem mW93 : Cond.methodLink RX3 3 objectInit ∈ gWs := gWs_tab (c_gT5 (List.mem_cons_of_mem _ (List.mem_cons_of_mem _ (List.mem_cons_of_mem _ (List.mem_cons_of_mem _ (List.mem_cons_of_mem _ (List.mem_cons_of_mem _ (List.mem_cons_of_mem _ (List.mem_cons_of_mem _ (List.mem_cons_of_mem _ (List.mem_cons_of_mem _ (List.mem_cons_of_mem _ (List.mem_cons_of_mem _ (List.mem_cons_of_mem _ (List.mem_cons_self))))))))))))))) rfl
theorem mW94 : Cond.fieldLink RX3 11 "GrowingUrns$Orders" "aboves" "[J" ∈ gWs := gWs_tab (c_gT5 (List.mem_cons_of_mem _ (List.mem_cons_of_mem _ (List.mem_cons_of_mem _ (List.mem_cons_of_mem _ (List.mem_cons_of_mem _ (List.mem_cons_of_mem _ (List.mem_cons_of_mem _ (List.mem_cons_of_mem _ (List.mem_cons_of_mem _ (List.mem_cons_of_mem _ (List.mem_cons_of_mem _ (List.mem_cons_of_mem _ (List.mem_cons_of_mem _ (List.mem_cons_of_mem _ (List.mem_cons_self)))))))))))))))) rfl
theorem mW95 : Cond.fieldLink RX3 15 "GrowingUrns$Orders" "belows" "[J" ∈ gWs := gWs_tab (c_gT5 (List.mem_cons_of_mem _ (List.mem_cons_of_mem _ (List.mem_cons_of_mem _ (List.mem_cons_of_mem _ (List.mem_cons_of_mem _ (List.mem_cons_of_mem _ (List.mem_cons_of_mem _ (List.mem_cons_of_mem _ (List.mem_cons_of_mem _ (List.mem_cons_of_mem _ (List.mem_cons_of_mem _ (List.mem_cons_of_mem _ (List.mem_cons_of_mem _ (List.mem_cons_of_mem _ (List.mem_cons_of_mem _ (List.mem_cons_self))))))))))))))))) rfl
theorem c_gT6 {w : Cond} (h : w ∈ gT6) : w ∈ tables_1 := t_tables_1_1 (List.mem_append_right _ (List.mem_append_right _ (List.mem_append_right _ (List.mem_append_right _ (List.mem_append_right _ (List.mem_append_right _ (List.mem_append_left _ h)))))))
theorem mW96 : Cond.laysFinal RX3 "GrowingUrns$Orders" "aboves" "[J" ∈ gWs := gWs_tab (c_gT6 (List.mem_cons_self)) rfl
theorem mW98 : Cond.laysFinal RX3 "GrowingUrns$Orders" "belows" "[J" ∈ gWs := gWs_tab (c_gT6 (List.mem_cons_of_mem _ (List.mem_cons_of_mem _ (List.mem_cons_self)))) rfl
theorem mW101 : Cond.arrayClass .long ∈ lw_tbl := List.mem_append_right _ (c_gT6 (List.mem_cons_of_mem _ (List.mem_cons_of_mem _ (List.mem_cons_of_mem _ (List.mem_cons_of_mem _ (List.mem_cons_of_mem _ (List.mem_cons_self)))))))
theorem mW102 : Cond.classLink RX8 49 RX0 ∈ gWs := gWs_tab (c_gT6 (List.mem_cons_of_mem _ (List.mem_cons_of_mem _ (List.mem_cons_of_mem _ (List.mem_cons_of_mem _ (List.mem_cons_of_mem _ (List.mem_cons_of_mem _ (List.mem_cons_self)))))))) rfl
theorem mW103 : Cond.instantiable RX0 11 ∈ gWs := gWs_tab (c_gT6 (List.mem_cons_of_mem _ (List.mem_cons_of_mem _ (List.mem_cons_of_mem _ (List.mem_cons_of_mem _ (List.mem_cons_of_mem _ (List.mem_cons_of_mem _ (List.mem_cons_of_mem _ (List.mem_cons_self))))))))) rfl
theorem mW104 : Cond.methodLinkNest RX8 51 yX0_init RX8 ∈ lw_tbl := List.mem_append_right _ (c_gT6 (List.mem_cons_of_mem _ (List.mem_cons_of_mem _ (List.mem_cons_of_mem _ (List.mem_cons_of_mem _ (List.mem_cons_of_mem _ (List.mem_cons_of_mem _ (List.mem_cons_of_mem _ (List.mem_cons_of_mem _ (List.mem_cons_self))))))))))
theorem mW105 : Cond.instanceMethod yX0_init ∈ gWs := gWs_tab (c_gT6 (List.mem_cons_of_mem _ (List.mem_cons_of_mem _ (List.mem_cons_of_mem _ (List.mem_cons_of_mem _ (List.mem_cons_of_mem _ (List.mem_cons_of_mem _ (List.mem_cons_of_mem _ (List.mem_cons_of_mem _ (List.mem_cons_of_mem _ (List.mem_cons_self))))))))))) rfl
theorem mW106 : Cond.code yX0_init cX0_init 1 none ∈ gWs := gWs_tab (c_gT6 (List.mem_cons_of_mem _ (List.mem_cons_of_mem _ (List.mem_cons_of_mem _ (List.mem_cons_of_mem _ (List.mem_cons_of_mem _ (List.mem_cons_of_mem _ (List.mem_cons_of_mem _ (List.mem_cons_of_mem _ (List.mem_cons_of_mem _ (List.mem_cons_of_mem _ (List.mem_cons_self)))))))))))) rfl
theorem mW107 : Cond.methodLink RX0 3 objectInit ∈ gWs := gWs_tab (c_gT6 (List.mem_cons_of_mem _ (List.mem_cons_of_mem _ (List.mem_cons_of_mem _ (List.mem_cons_of_mem _ (List.mem_cons_of_mem _ (List.mem_cons_of_mem _ (List.mem_cons_of_mem _ (List.mem_cons_of_mem _ (List.mem_cons_of_mem _ (List.mem_cons_of_mem _ (List.mem_cons_of_mem _ (List.mem_cons_self))))))))))))) rfl
theorem mW108 : Cond.fieldLink RX0 11 "GrowingUrns$After" "now" "[J" ∈ gWs := gWs_tab (c_gT6 (List.mem_cons_of_mem _ (List.mem_cons_of_mem _ (List.mem_cons_of_mem _ (List.mem_cons_of_mem _ (List.mem_cons_of_mem _ (List.mem_cons_of_mem _ (List.mem_cons_of_mem _ (List.mem_cons_of_mem _ (List.mem_cons_of_mem _ (List.mem_cons_of_mem _ (List.mem_cons_of_mem _ (List.mem_cons_of_mem _ (List.mem_cons_self)))))))))))))) rfl
theorem mW109 : Cond.fieldLink RX0 15 "GrowingUrns$After" "next" "[J" ∈ gWs := gWs_tab (c_gT6 (List.mem_cons_of_mem _ (List.mem_cons_of_mem _ (List.mem_cons_of_mem _ (List.mem_cons_of_mem _ (List.mem_cons_of_mem _ (List.mem_cons_of_mem _ (List.mem_cons_of_mem _ (List.mem_cons_of_mem _ (List.mem_cons_of_mem _ (List.mem_cons_of_mem _ (List.mem_cons_of_mem _ (List.mem_cons_of_mem _ (List.mem_cons_of_mem _ (List.mem_cons_self))))))))))))))) rfl
theorem mW110 : Cond.fieldLink RX0 18 "GrowingUrns$After" "only" "[I" ∈ gWs := gWs_tab (c_gT6 (List.mem_cons_of_mem _ (List.mem_cons_of_mem _ (List.mem_cons_of_mem _ (List.mem_cons_of_mem _ (List.mem_cons_of_mem _ (List.mem_cons_of_mem _ (List.mem_cons_of_mem _ (List.mem_cons_of_mem _ (List.mem_cons_of_mem _ (List.mem_cons_of_mem _ (List.mem_cons_of_mem _ (List.mem_cons_of_mem _ (List.mem_cons_of_mem _ (List.mem_cons_of_mem _ (List.mem_cons_self)))))))))))))))) rfl
theorem mW111 : Cond.fieldLink RX0 22 "GrowingUrns$After" "often" "[I" ∈ gWs := gWs_tab (c_gT6 (List.mem_cons_of_mem _ (List.mem_cons_of_mem _ (List.mem_cons_of_mem _ (List.mem_cons_of_mem _ (List.mem_cons_of_mem _ (List.mem_cons_of_mem _ (List.mem_cons_of_mem _ (List.mem_cons_of_mem _ (List.mem_cons_of_mem _ (List.mem_cons_of_mem _ (List.mem_cons_of_mem _ (List.mem_cons_of_mem _ (List.mem_cons_of_mem _ (List.mem_cons_of_mem _ (List.mem_cons_of_mem _ (List.mem_cons_self))))))))))))))))) rfl
theorem c_gT7 {w : Cond} (h : w ∈ gT7) : w ∈ tables_1 := t_tables_1_1 (List.mem_append_right _ (List.mem_append_right _ (List.mem_append_right _ (List.mem_append_right _ (List.mem_append_right _ (List.mem_append_right _ (List.mem_append_right _ (List.mem_append_left _ h))))))))
theorem mW112 : Cond.fieldLink RX0 25 "GrowingUrns$After" "balls" "[I" ∈ gWs := gWs_tab (c_gT7 (List.mem_cons_self)) rfl
theorem mW113 : Cond.fieldLink RX0 28 "GrowingUrns$After" "byTimes" "[J" ∈ gWs := gWs_tab (c_gT7 (List.mem_cons_of_mem _ (List.mem_cons_self))) rfl
theorem mW114 : Cond.fieldLink RX8 199 "GrowingUrns$After" "byTimes" "[J" ∈ gWs := gWs_tab (c_gT7 (List.mem_cons_of_mem _ (List.mem_cons_of_mem _ (List.mem_cons_self)))) rfl
theorem mW115 : Cond.fieldLink RX0 31 "GrowingUrns$After" "byBalls" "[J" ∈ gWs := gWs_tab (c_gT7 (List.mem_cons_of_mem _ (List.mem_cons_of_mem _ (List.mem_cons_of_mem _ (List.mem_cons_self))))) rfl
theorem mW116 : Cond.fieldLink RX8 203 "GrowingUrns$After" "byBalls" "[J" ∈ gWs := gWs_tab (c_gT7 (List.mem_cons_of_mem _ (List.mem_cons_of_mem _ (List.mem_cons_of_mem _ (List.mem_cons_of_mem _ (List.mem_cons_self)))))) rfl
theorem mW117 : Cond.fieldLink RX0 34 "GrowingUrns$After" "ended" "J" ∈ gWs := gWs_tab (c_gT7 (List.mem_cons_of_mem _ (List.mem_cons_of_mem _ (List.mem_cons_of_mem _ (List.mem_cons_of_mem _ (List.mem_cons_of_mem _ (List.mem_cons_self))))))) rfl
theorem mW118 : Cond.fieldLink RX8 206 "GrowingUrns$After" "ended" "J" ∈ gWs := gWs_tab (c_gT7 (List.mem_cons_of_mem _ (List.mem_cons_of_mem _ (List.mem_cons_of_mem _ (List.mem_cons_of_mem _ (List.mem_cons_of_mem _ (List.mem_cons_of_mem _ (List.mem_cons_self)))))))) rfl
theorem mW119 : Cond.fieldLink RX0 38 "GrowingUrns$After" "below" "J" ∈ gWs := gWs_tab (c_gT7 (List.mem_cons_of_mem _ (List.mem_cons_of_mem _ (List.mem_cons_of_mem _ (List.mem_cons_of_mem _ (List.mem_cons_of_mem _ (List.mem_cons_of_mem _ (List.mem_cons_of_mem _ (List.mem_cons_self))))))))) rfl
theorem mW120 : Cond.fieldLink RX8 202 "GrowingUrns$After" "below" "J" ∈ gWs := gWs_tab (c_gT7 (List.mem_cons_of_mem _ (List.mem_cons_of_mem _ (List.mem_cons_of_mem _ (List.mem_cons_of_mem _ (List.mem_cons_of_mem _ (List.mem_cons_of_mem _ (List.mem_cons_of_mem _ (List.mem_cons_of_mem _ (List.mem_cons_self)))))))))) rfl
theorem mW121 : Cond.fieldLink RX0 41 "GrowingUrns$After" "meanWhole" "J" ∈ gWs := gWs_tab (c_gT7 (List.mem_cons_of_mem _ (List.mem_cons_of_mem _ (List.mem_cons_of_mem _ (List.mem_cons_of_mem _ (List.mem_cons_of_mem _ (List.mem_cons_of_mem _ (List.mem_cons_of_mem _ (List.mem_cons_of_mem _ (List.mem_cons_of_mem _ (List.mem_cons_self))))))))))) rfl
theorem mW122 : Cond.fieldLink RX8 212 "GrowingUrns$After" "meanWhole" "J" ∈ gWs := gWs_tab (c_gT7 (List.mem_cons_of_mem _ (List.mem_cons_of_mem _ (List.mem_cons_of_mem _ (List.mem_cons_of_mem _ (List.mem_cons_of_mem _ (List.mem_cons_of_mem _ (List.mem_cons_of_mem _ (List.mem_cons_of_mem _ (List.mem_cons_of_mem _ (List.mem_cons_of_mem _ (List.mem_cons_self)))))))))))) rfl
theorem mW123 : Cond.fieldLink RX0 44 "GrowingUrns$After" "meanRest" "J" ∈ gWs := gWs_tab (c_gT7 (List.mem_cons_of_mem _ (List.mem_cons_of_mem _ (List.mem_cons_of_mem _ (List.mem_cons_of_mem _ (List.mem_cons_of_mem _ (List.mem_cons_of_mem _ (List.mem_cons_of_mem _ (List.mem_cons_of_mem _ (List.mem_cons_of_mem _ (List.mem_cons_of_mem _ (List.mem_cons_of_mem _ (List.mem_cons_self))))))))))))) rfl
theorem mW124 : Cond.fieldLink RX8 215 "GrowingUrns$After" "meanRest" "J" ∈ gWs := gWs_tab (c_gT7 (List.mem_cons_of_mem _ (List.mem_cons_of_mem _ (List.mem_cons_of_mem _ (List.mem_cons_of_mem _ (List.mem_cons_of_mem _ (List.mem_cons_of_mem _ (List.mem_cons_of_mem _ (List.mem_cons_of_mem _ (List.mem_cons_of_mem _ (List.mem_cons_of_mem _ (List.mem_cons_of_mem _ (List.mem_cons_of_mem _ (List.mem_cons_self)))))))))))))) rfl
theorem mW125 : Cond.lays RX0 "GrowingUrns$After" "now" "[J" ∈ gWs := gWs_tab (c_gT7 (List.mem_cons_of_mem _ (List.mem_cons_of_mem _ (List.mem_cons_of_mem _ (List.mem_cons_of_mem _ (List.mem_cons_of_mem _ (List.mem_cons_of_mem _ (List.mem_cons_of_mem _ (List.mem_cons_of_mem _ (List.mem_cons_of_mem _ (List.mem_cons_of_mem _ (List.mem_cons_of_mem _ (List.mem_cons_of_mem _ (List.mem_cons_of_mem _ (List.mem_cons_self))))))))))))))) rfl
theorem mW127 : Cond.lays RX0 "GrowingUrns$After" "next" "[J" ∈ gWs := gWs_tab (c_gT7 (List.mem_cons_of_mem _ (List.mem_cons_of_mem _ (List.mem_cons_of_mem _ (List.mem_cons_of_mem _ (List.mem_cons_of_mem _ (List.mem_cons_of_mem _ (List.mem_cons_of_mem _ (List.mem_cons_of_mem _ (List.mem_cons_of_mem _ (List.mem_cons_of_mem _ (List.mem_cons_of_mem _ (List.mem_cons_of_mem _ (List.mem_cons_of_mem _ (List.mem_cons_of_mem _ (List.mem_cons_of_mem _ (List.mem_cons_self))))))))))))))))) rfl
theorem c_gT8 {w : Cond} (h : w ∈ gT8) : w ∈ tables_1 := t_tables_1_1 (List.mem_append_right _ (List.mem_append_right _ (List.mem_append_right _ (List.mem_append_right _ (List.mem_append_right _ (List.mem_append_right _ (List.mem_append_right _ (List.mem_append_right _ (List.mem_append_left _ h)))))))))
theorem mW129 : Cond.laysFinal RX0 "GrowingUrns$After" "only" "[I" ∈ gWs := gWs_tab (c_gT8 (List.mem_cons_of_mem _ (List.mem_cons_self))) rfl
theorem mW131 : Cond.laysFinal RX0 "GrowingUrns$After" "often" "[I" ∈ gWs := gWs_tab (c_gT8 (List.mem_cons_of_mem _ (List.mem_cons_of_mem _ (List.mem_cons_of_mem _ (List.mem_cons_self))))) rfl
theorem mW133 : Cond.laysFinal RX0 "GrowingUrns$After" "balls" "[I" ∈ gWs := gWs_tab (c_gT8 (List.mem_cons_of_mem _ (List.mem_cons_of_mem _ (List.mem_cons_of_mem _ (List.mem_cons_of_mem _ (List.mem_cons_of_mem _ (List.mem_cons_self))))))) rfl
theorem mW135 : Cond.laysFinal RX0 "GrowingUrns$After" "byTimes" "[J" ∈ gWs := gWs_tab (c_gT8 (List.mem_cons_of_mem _ (List.mem_cons_of_mem _ (List.mem_cons_of_mem _ (List.mem_cons_of_mem _ (List.mem_cons_of_mem _ (List.mem_cons_of_mem _ (List.mem_cons_of_mem _ (List.mem_cons_self))))))))) rfl
theorem mW137 : Cond.laysFinal RX0 "GrowingUrns$After" "byBalls" "[J" ∈ gWs := gWs_tab (c_gT8 (List.mem_cons_of_mem _ (List.mem_cons_of_mem _ (List.mem_cons_of_mem _ (List.mem_cons_of_mem _ (List.mem_cons_of_mem _ (List.mem_cons_of_mem _ (List.mem_cons_of_mem _ (List.mem_cons_of_mem _ (List.mem_cons_of_mem _ (List.mem_cons_self))))))))))) rfl
theorem mW139 : Cond.lays RX0 "GrowingUrns$After" "ended" "J" ∈ gWs := gWs_tab (c_gT8 (List.mem_cons_of_mem _ (List.mem_cons_of_mem _ (List.mem_cons_of_mem _ (List.mem_cons_of_mem _ (List.mem_cons_of_mem _ (List.mem_cons_of_mem _ (List.mem_cons_of_mem _ (List.mem_cons_of_mem _ (List.mem_cons_of_mem _ (List.mem_cons_of_mem _ (List.mem_cons_of_mem _ (List.mem_cons_self))))))))))))) rfl
theorem mW141 : Cond.lays RX0 "GrowingUrns$After" "below" "J" ∈ gWs := gWs_tab (c_gT8 (List.mem_cons_of_mem _ (List.mem_cons_of_mem _ (List.mem_cons_of_mem _ (List.mem_cons_of_mem _ (List.mem_cons_of_mem _ (List.mem_cons_of_mem _ (List.mem_cons_of_mem _ (List.mem_cons_of_mem _ (List.mem_cons_of_mem _ (List.mem_cons_of_mem _ (List.mem_cons_of_mem _ (List.mem_cons_of_mem _ (List.mem_cons_of_mem _ (List.mem_cons_self))))))))))))))) rfl
theorem mW143 : Cond.lays RX0 "GrowingUrns$After" "meanWhole" "J" ∈ gWs := gWs_tab (c_gT8 (List.mem_cons_of_mem _ (List.mem_cons_of_mem _ (List.mem_cons_of_mem _ (List.mem_cons_of_mem _ (List.mem_cons_of_mem _ (List.mem_cons_of_mem _ (List.mem_cons_of_mem _ (List.mem_cons_of_mem _ (List.mem_cons_of_mem _ (List.mem_cons_of_mem _ (List.mem_cons_of_mem _ (List.mem_cons_of_mem _ (List.mem_cons_of_mem _ (List.mem_cons_of_mem _ (List.mem_cons_of_mem _ (List.mem_cons_self))))))))))))))))) rfl
theorem c_gT9 {w : Cond} (h : w ∈ gT9) : w ∈ tables_1 := t_tables_1_1 (List.mem_append_right _ (List.mem_append_right _ (List.mem_append_right _ (List.mem_append_right _ (List.mem_append_right _ (List.mem_append_right _ (List.mem_append_right _ (List.mem_append_right _ (List.mem_append_right _ (List.mem_append_left _ h))))))))))
theorem mW145 : Cond.lays RX0 "GrowingUrns$After" "meanRest" "J" ∈ gWs := gWs_tab (c_gT9 (List.mem_cons_of_mem _ (List.mem_cons_self))) rfl
theorem mW148 : Cond.classLink RX8 56 RX1 ∈ gWs := gWs_tab (c_gT9 (List.mem_cons_of_mem _ (List.mem_cons_of_mem _ (List.mem_cons_of_mem _ (List.mem_cons_of_mem _ (List.mem_cons_self)))))) rfl
theorem mW149 : Cond.instantiable RX1 3 ∈ gWs := gWs_tab (c_gT9 (List.mem_cons_of_mem _ (List.mem_cons_of_mem _ (List.mem_cons_of_mem _ (List.mem_cons_of_mem _ (List.mem_cons_of_mem _ (List.mem_cons_self))))))) rfl
theorem mW150 : Cond.methodLinkNest RX8 58 yX1_init RX8 ∈ lw_tbl := List.mem_append_right _ (c_gT9 (List.mem_cons_of_mem _ (List.mem_cons_of_mem _ (List.mem_cons_of_mem _ (List.mem_cons_of_mem _ (List.mem_cons_of_mem _ (List.mem_cons_of_mem _ (List.mem_cons_self))))))))
theorem mW151 : Cond.instanceMethod yX1_init ∈ gWs := gWs_tab (c_gT9 (List.mem_cons_of_mem _ (List.mem_cons_of_mem _ (List.mem_cons_of_mem _ (List.mem_cons_of_mem _ (List.mem_cons_of_mem _ (List.mem_cons_of_mem _ (List.mem_cons_of_mem _ (List.mem_cons_self))))))))) rfl
theorem mW152 : Cond.code yX1_init cX1_init 1 none ∈ gWs := gWs_tab (c_gT9 (List.mem_cons_of_mem _ (List.mem_cons_of_mem _ (List.mem_cons_of_mem _ (List.mem_cons_of_mem _ (List.mem_cons_of_mem _ (List.mem_cons_of_mem _ (List.mem_cons_of_mem _ (List.mem_cons_of_mem _ (List.mem_cons_self)))))))))) rfl
theorem mW153 : Cond.methodLink RX1 1 objectInit ∈ gWs := gWs_tab (c_gT9 (List.mem_cons_of_mem _ (List.mem_cons_of_mem _ (List.mem_cons_of_mem _ (List.mem_cons_of_mem _ (List.mem_cons_of_mem _ (List.mem_cons_of_mem _ (List.mem_cons_of_mem _ (List.mem_cons_of_mem _ (List.mem_cons_of_mem _ (List.mem_cons_self))))))))))) rfl
theorem mW154 : Cond.fieldLink RX1 7 "GrowingUrns$Fraction" "whole" "J" ∈ gWs := gWs_tab (c_gT9 (List.mem_cons_of_mem _ (List.mem_cons_of_mem _ (List.mem_cons_of_mem _ (List.mem_cons_of_mem _ (List.mem_cons_of_mem _ (List.mem_cons_of_mem _ (List.mem_cons_of_mem _ (List.mem_cons_of_mem _ (List.mem_cons_of_mem _ (List.mem_cons_of_mem _ (List.mem_cons_self)))))))))))) rfl
theorem mW155 : Cond.fieldLink RX8 244 "GrowingUrns$Fraction" "whole" "J" ∈ gWs := gWs_tab (c_gT9 (List.mem_cons_of_mem _ (List.mem_cons_of_mem _ (List.mem_cons_of_mem _ (List.mem_cons_of_mem _ (List.mem_cons_of_mem _ (List.mem_cons_of_mem _ (List.mem_cons_of_mem _ (List.mem_cons_of_mem _ (List.mem_cons_of_mem _ (List.mem_cons_of_mem _ (List.mem_cons_of_mem _ (List.mem_cons_self))))))))))))) rfl
theorem mW156 : Cond.fieldLink RX1 13 "GrowingUrns$Fraction" "above" "J" ∈ gWs := gWs_tab (c_gT9 (List.mem_cons_of_mem _ (List.mem_cons_of_mem _ (List.mem_cons_of_mem _ (List.mem_cons_of_mem _ (List.mem_cons_of_mem _ (List.mem_cons_of_mem _ (List.mem_cons_of_mem _ (List.mem_cons_of_mem _ (List.mem_cons_of_mem _ (List.mem_cons_of_mem _ (List.mem_cons_of_mem _ (List.mem_cons_of_mem _ (List.mem_cons_self)))))))))))))) rfl
theorem mW157 : Cond.fieldLink RX8 247 "GrowingUrns$Fraction" "above" "J" ∈ gWs := gWs_tab (c_gT9 (List.mem_cons_of_mem _ (List.mem_cons_of_mem _ (List.mem_cons_of_mem _ (List.mem_cons_of_mem _ (List.mem_cons_of_mem _ (List.mem_cons_of_mem _ (List.mem_cons_of_mem _ (List.mem_cons_of_mem _ (List.mem_cons_of_mem _ (List.mem_cons_of_mem _ (List.mem_cons_of_mem _ (List.mem_cons_of_mem _ (List.mem_cons_of_mem _ (List.mem_cons_self))))))))))))))) rfl
theorem mW158 : Cond.fieldLink RX1 16 "GrowingUrns$Fraction" "below" "J" ∈ gWs := gWs_tab (c_gT9 (List.mem_cons_of_mem _ (List.mem_cons_of_mem _ (List.mem_cons_of_mem _ (List.mem_cons_of_mem _ (List.mem_cons_of_mem _ (List.mem_cons_of_mem _ (List.mem_cons_of_mem _ (List.mem_cons_of_mem _ (List.mem_cons_of_mem _ (List.mem_cons_of_mem _ (List.mem_cons_of_mem _ (List.mem_cons_of_mem _ (List.mem_cons_of_mem _ (List.mem_cons_of_mem _ (List.mem_cons_self)))))))))))))))) rfl
theorem mW159 : Cond.fieldLink RX8 248 "GrowingUrns$Fraction" "below" "J" ∈ gWs := gWs_tab (c_gT9 (List.mem_cons_of_mem _ (List.mem_cons_of_mem _ (List.mem_cons_of_mem _ (List.mem_cons_of_mem _ (List.mem_cons_of_mem _ (List.mem_cons_of_mem _ (List.mem_cons_of_mem _ (List.mem_cons_of_mem _ (List.mem_cons_of_mem _ (List.mem_cons_of_mem _ (List.mem_cons_of_mem _ (List.mem_cons_of_mem _ (List.mem_cons_of_mem _ (List.mem_cons_of_mem _ (List.mem_cons_of_mem _ (List.mem_cons_self))))))))))))))))) rfl
theorem c_gT10 {w : Cond} (h : w ∈ gT10) : w ∈ tables_1 := t_tables_1_1 (List.mem_append_right _ (List.mem_append_right _ (List.mem_append_right _ (List.mem_append_right _ (List.mem_append_right _ (List.mem_append_right _ (List.mem_append_right _ (List.mem_append_right _ (List.mem_append_right _ (List.mem_append_right _ (List.mem_append_left _ h)))))))))))
theorem mW160 : Cond.lays RX1 "GrowingUrns$Fraction" "whole" "J" ∈ gWs := gWs_tab (c_gT10 (List.mem_cons_self)) rfl
theorem mW162 : Cond.lays RX1 "GrowingUrns$Fraction" "above" "J" ∈ gWs := gWs_tab (c_gT10 (List.mem_cons_of_mem _ (List.mem_cons_of_mem _ (List.mem_cons_self)))) rfl
theorem mW164 : Cond.lays RX1 "GrowingUrns$Fraction" "below" "J" ∈ gWs := gWs_tab (c_gT10 (List.mem_cons_of_mem _ (List.mem_cons_of_mem _ (List.mem_cons_of_mem _ (List.mem_cons_of_mem _ (List.mem_cons_self)))))) rfl
theorem mW167 : Cond.instantiable RX6 3 ∈ gWs := gWs_tab (c_gT10 (List.mem_cons_of_mem _ (List.mem_cons_of_mem _ (List.mem_cons_of_mem _ (List.mem_cons_of_mem _ (List.mem_cons_of_mem _ (List.mem_cons_of_mem _ (List.mem_cons_of_mem _ (List.mem_cons_self))))))))) rfl
theorem mW168 : Cond.methodLinkNest RX8 70 yX6_init RX8 ∈ lw_tbl := List.mem_append_right _ (c_gT10 (List.mem_cons_of_mem _ (List.mem_cons_of_mem _ (List.mem_cons_of_mem _ (List.mem_cons_of_mem _ (List.mem_cons_of_mem _ (List.mem_cons_of_mem _ (List.mem_cons_of_mem _ (List.mem_cons_of_mem _ (List.mem_cons_self))))))))))
theorem mW169 : Cond.instanceMethod yX6_init ∈ gWs := gWs_tab (c_gT10 (List.mem_cons_of_mem _ (List.mem_cons_of_mem _ (List.mem_cons_of_mem _ (List.mem_cons_of_mem _ (List.mem_cons_of_mem _ (List.mem_cons_of_mem _ (List.mem_cons_of_mem _ (List.mem_cons_of_mem _ (List.mem_cons_of_mem _ (List.mem_cons_self))))))))))) rfl
theorem mW170 : Cond.code yX6_init cX6_init 1 none ∈ gWs := gWs_tab (c_gT10 (List.mem_cons_of_mem _ (List.mem_cons_of_mem _ (List.mem_cons_of_mem _ (List.mem_cons_of_mem _ (List.mem_cons_of_mem _ (List.mem_cons_of_mem _ (List.mem_cons_of_mem _ (List.mem_cons_of_mem _ (List.mem_cons_of_mem _ (List.mem_cons_of_mem _ (List.mem_cons_self)))))))))))) rfl
theorem mW171 : Cond.methodLink RX6 3 objectInit ∈ gWs := gWs_tab (c_gT10 (List.mem_cons_of_mem _ (List.mem_cons_of_mem _ (List.mem_cons_of_mem _ (List.mem_cons_of_mem _ (List.mem_cons_of_mem _ (List.mem_cons_of_mem _ (List.mem_cons_of_mem _ (List.mem_cons_of_mem _ (List.mem_cons_of_mem _ (List.mem_cons_of_mem _ (List.mem_cons_of_mem _ (List.mem_cons_self))))))))))))) rfl
theorem mW172 : Cond.fieldLink RX6 9 "GrowingUrns$Sheet" "places" "[J" ∈ gWs := gWs_tab (c_gT10 (List.mem_cons_of_mem _ (List.mem_cons_of_mem _ (List.mem_cons_of_mem _ (List.mem_cons_of_mem _ (List.mem_cons_of_mem _ (List.mem_cons_of_mem _ (List.mem_cons_of_mem _ (List.mem_cons_of_mem _ (List.mem_cons_of_mem _ (List.mem_cons_of_mem _ (List.mem_cons_of_mem _ (List.mem_cons_of_mem _ (List.mem_cons_self)))))))))))))) rfl
theorem mW173 : Cond.fieldLink RX8 87 "GrowingUrns$Sheet" "places" "[J" ∈ gWs := gWs_tab (c_gT10 (List.mem_cons_of_mem _ (List.mem_cons_of_mem _ (List.mem_cons_of_mem _ (List.mem_cons_of_mem _ (List.mem_cons_of_mem _ (List.mem_cons_of_mem _ (List.mem_cons_of_mem _ (List.mem_cons_of_mem _ (List.mem_cons_of_mem _ (List.mem_cons_of_mem _ (List.mem_cons_of_mem _ (List.mem_cons_of_mem _ (List.mem_cons_of_mem _ (List.mem_cons_self))))))))))))))) rfl
theorem mW174 : Cond.fieldLink RX6 15 "GrowingUrns$Sheet" "kind" "I" ∈ gWs := gWs_tab (c_gT10 (List.mem_cons_of_mem _ (List.mem_cons_of_mem _ (List.mem_cons_of_mem _ (List.mem_cons_of_mem _ (List.mem_cons_of_mem _ (List.mem_cons_of_mem _ (List.mem_cons_of_mem _ (List.mem_cons_of_mem _ (List.mem_cons_of_mem _ (List.mem_cons_of_mem _ (List.mem_cons_of_mem _ (List.mem_cons_of_mem _ (List.mem_cons_of_mem _ (List.mem_cons_of_mem _ (List.mem_cons_self)))))))))))))))) rfl
theorem mW175 : Cond.fieldLink RX8 80 "GrowingUrns$Sheet" "kind" "I" ∈ gWs := gWs_tab (c_gT10 (List.mem_cons_of_mem _ (List.mem_cons_of_mem _ (List.mem_cons_of_mem _ (List.mem_cons_of_mem _ (List.mem_cons_of_mem _ (List.mem_cons_of_mem _ (List.mem_cons_of_mem _ (List.mem_cons_of_mem _ (List.mem_cons_of_mem _ (List.mem_cons_of_mem _ (List.mem_cons_of_mem _ (List.mem_cons_of_mem _ (List.mem_cons_of_mem _ (List.mem_cons_of_mem _ (List.mem_cons_of_mem _ (List.mem_cons_self))))))))))))))))) rfl
theorem c_gT11 {w : Cond} (h : w ∈ gT11) : w ∈ tables_1 := t_tables_1_1 (List.mem_append_right _ (List.mem_append_right _ (List.mem_append_right _ (List.mem_append_right _ (List.mem_append_right _ (List.mem_append_right _ (List.mem_append_right _ (List.mem_append_right _ (List.mem_append_right _ (List.mem_append_right _ (List.mem_append_right _ (List.mem_append_left _ h))))))))))))
theorem mW176 : Cond.fieldLink RX6 19 "GrowingUrns$Sheet" "length" "I" ∈ gWs := gWs_tab (c_gT11 (List.mem_cons_self)) rfl
theorem mW177 : Cond.laysFinal RX6 "GrowingUrns$Sheet" "places" "[J" ∈ gWs := gWs_tab (c_gT11 (List.mem_cons_of_mem _ (List.mem_cons_self))) rfl
theorem mW179 : Cond.lays RX6 "GrowingUrns$Sheet" "kind" "I" ∈ gWs := gWs_tab (c_gT11 (List.mem_cons_of_mem _ (List.mem_cons_of_mem _ (List.mem_cons_of_mem _ (List.mem_cons_self))))) rfl
theorem mW181 : Cond.lays RX6 "GrowingUrns$Sheet" "length" "I" ∈ gWs := gWs_tab (c_gT11 (List.mem_cons_of_mem _ (List.mem_cons_of_mem _ (List.mem_cons_of_mem _ (List.mem_cons_of_mem _ (List.mem_cons_of_mem _ (List.mem_cons_self))))))) rfl
theorem mW184 : Cond.instantiable RX7 5 ∈ gWs := gWs_tab (c_gT11 (List.mem_cons_of_mem _ (List.mem_cons_of_mem _ (List.mem_cons_of_mem _ (List.mem_cons_of_mem _ (List.mem_cons_of_mem _ (List.mem_cons_of_mem _ (List.mem_cons_of_mem _ (List.mem_cons_of_mem _ (List.mem_cons_self)))))))))) rfl
theorem mW185 : Cond.methodLink RX8 71 yX7_init ∈ gWs := gWs_tab (c_gT11 (List.mem_cons_of_mem _ (List.mem_cons_of_mem _ (List.mem_cons_of_mem _ (List.mem_cons_of_mem _ (List.mem_cons_of_mem _ (List.mem_cons_of_mem _ (List.mem_cons_of_mem _ (List.mem_cons_of_mem _ (List.mem_cons_of_mem _ (List.mem_cons_self))))))))))) rfl
theorem mW186 : Cond.instanceMethod yX7_init ∈ gWs := gWs_tab (c_gT11 (List.mem_cons_of_mem _ (List.mem_cons_of_mem _ (List.mem_cons_of_mem _ (List.mem_cons_of_mem _ (List.mem_cons_of_mem _ (List.mem_cons_of_mem _ (List.mem_cons_of_mem _ (List.mem_cons_of_mem _ (List.mem_cons_of_mem _ (List.mem_cons_of_mem _ (List.mem_cons_self)))))))))))) rfl
theorem mW187 : Cond.code yX7_init cX7_init 1 none ∈ gWs := gWs_tab (c_gT11 (List.mem_cons_of_mem _ (List.mem_cons_of_mem _ (List.mem_cons_of_mem _ (List.mem_cons_of_mem _ (List.mem_cons_of_mem _ (List.mem_cons_of_mem _ (List.mem_cons_of_mem _ (List.mem_cons_of_mem _ (List.mem_cons_of_mem _ (List.mem_cons_of_mem _ (List.mem_cons_of_mem _ (List.mem_cons_self))))))))))))) rfl
theorem mW188 : Cond.methodLink RX7 3 objectInit ∈ gWs := gWs_tab (c_gT11 (List.mem_cons_of_mem _ (List.mem_cons_of_mem _ (List.mem_cons_of_mem _ (List.mem_cons_of_mem _ (List.mem_cons_of_mem _ (List.mem_cons_of_mem _ (List.mem_cons_of_mem _ (List.mem_cons_of_mem _ (List.mem_cons_of_mem _ (List.mem_cons_of_mem _ (List.mem_cons_of_mem _ (List.mem_cons_of_mem _ (List.mem_cons_self)))))))))))))) rfl
theorem mW189 : Cond.methodLink RX7 28 yJ7_fill_53178 ∈ gWs := gWs_tab (c_gT11 (List.mem_cons_of_mem _ (List.mem_cons_of_mem _ (List.mem_cons_of_mem _ (List.mem_cons_of_mem _ (List.mem_cons_of_mem _ (List.mem_cons_of_mem _ (List.mem_cons_of_mem _ (List.mem_cons_of_mem _ (List.mem_cons_of_mem _ (List.mem_cons_of_mem _ (List.mem_cons_of_mem _ (List.mem_cons_of_mem _ (List.mem_cons_of_mem _ (List.mem_cons_self))))))))))))))) rfl
theorem mW190 : Cond.static yJ7_fill_53178 ∈ gWs := gWs_tab (c_gT11 (List.mem_cons_of_mem _ (List.mem_cons_of_mem _ (List.mem_cons_of_mem _ (List.mem_cons_of_mem _ (List.mem_cons_of_mem _ (List.mem_cons_of_mem _ (List.mem_cons_of_mem _ (List.mem_cons_of_mem _ (List.mem_cons_of_mem _ (List.mem_cons_of_mem _ (List.mem_cons_of_mem _ (List.mem_cons_of_mem _ (List.mem_cons_of_mem _ (List.mem_cons_of_mem _ (List.mem_cons_self)))))))))))))))) rfl
theorem mW191 : Cond.code yJ7_fill_53178 cJ7_fill_53178 4 none ∈ gWs := gWs_tab (c_gT11 (List.mem_cons_of_mem _ (List.mem_cons_of_mem _ (List.mem_cons_of_mem _ (List.mem_cons_of_mem _ (List.mem_cons_of_mem _ (List.mem_cons_of_mem _ (List.mem_cons_of_mem _ (List.mem_cons_of_mem _ (List.mem_cons_of_mem _ (List.mem_cons_of_mem _ (List.mem_cons_of_mem _ (List.mem_cons_of_mem _ (List.mem_cons_of_mem _ (List.mem_cons_of_mem _ (List.mem_cons_of_mem _ (List.mem_cons_self))))))))))))))))) rfl
theorem c_gT12 {w : Cond} (h : w ∈ gT12) : w ∈ tables_1 := t_tables_1_1 (List.mem_append_right _ (List.mem_append_right _ (List.mem_append_right _ (List.mem_append_right _ (List.mem_append_right _ (List.mem_append_right _ (List.mem_append_right _ (List.mem_append_right _ (List.mem_append_right _ (List.mem_append_right _ (List.mem_append_right _ (List.mem_append_right _ (List.mem_append_left _ h)))))))))))))
theorem mW192 : Cond.fieldLink RX7 9 "GrowingUrns$Urn" "balls" "[I" ∈ gWs := gWs_tab (c_gT12 (List.mem_cons_self)) rfl
theorem mW193 : Cond.fieldLink RX5 22 "GrowingUrns$Urn" "balls" "[I" ∈ gWs := gWs_tab (c_gT12 (List.mem_cons_of_mem _ (List.mem_cons_self))) rfl
theorem mW194 : Cond.fieldLink RX8 119 "GrowingUrns$Urn" "balls" "[I" ∈ gWs := gWs_tab (c_gT12 (List.mem_cons_of_mem _ (List.mem_cons_of_mem _ (List.mem_cons_self)))) rfl
theorem mW195 : Cond.fieldLink RX0 99 "GrowingUrns$Urn" "balls" "[I" ∈ gWs := gWs_tab (c_gT12 (List.mem_cons_of_mem _ (List.mem_cons_of_mem _ (List.mem_cons_of_mem _ (List.mem_cons_self))))) rfl
theorem mW196 : Cond.fieldLink RX7 15 "GrowingUrns$Urn" "table" "[I" ∈ gWs := gWs_tab (c_gT12 (List.mem_cons_of_mem _ (List.mem_cons_of_mem _ (List.mem_cons_of_mem _ (List.mem_cons_of_mem _ (List.mem_cons_self)))))) rfl
theorem mW197 : Cond.fieldLink RX8 123 "GrowingUrns$Urn" "table" "[I" ∈ gWs := gWs_tab (c_gT12 (List.mem_cons_of_mem _ (List.mem_cons_of_mem _ (List.mem_cons_of_mem _ (List.mem_cons_of_mem _ (List.mem_cons_of_mem _ (List.mem_cons_self))))))) rfl
theorem mW198 : Cond.fieldLink RX0 100 "GrowingUrns$Urn" "table" "[I" ∈ gWs := gWs_tab (c_gT12 (List.mem_cons_of_mem _ (List.mem_cons_of_mem _ (List.mem_cons_of_mem _ (List.mem_cons_of_mem _ (List.mem_cons_of_mem _ (List.mem_cons_of_mem _ (List.mem_cons_self)))))))) rfl
theorem mW199 : Cond.fieldLink RX7 18 "GrowingUrns$Urn" "under" "[I" ∈ gWs := gWs_tab (c_gT12 (List.mem_cons_of_mem _ (List.mem_cons_of_mem _ (List.mem_cons_of_mem _ (List.mem_cons_of_mem _ (List.mem_cons_of_mem _ (List.mem_cons_of_mem _ (List.mem_cons_of_mem _ (List.mem_cons_self))))))))) rfl
theorem mW200 : Cond.fieldLink RX8 126 "GrowingUrns$Urn" "under" "[I" ∈ gWs := gWs_tab (c_gT12 (List.mem_cons_of_mem _ (List.mem_cons_of_mem _ (List.mem_cons_of_mem _ (List.mem_cons_of_mem _ (List.mem_cons_of_mem _ (List.mem_cons_of_mem _ (List.mem_cons_of_mem _ (List.mem_cons_of_mem _ (List.mem_cons_self)))))))))) rfl
theorem mW201 : Cond.fieldLink RX7 21 "GrowingUrns$Urn" "colours" "I" ∈ gWs := gWs_tab (c_gT12 (List.mem_cons_of_mem _ (List.mem_cons_of_mem _ (List.mem_cons_of_mem _ (List.mem_cons_of_mem _ (List.mem_cons_of_mem _ (List.mem_cons_of_mem _ (List.mem_cons_of_mem _ (List.mem_cons_of_mem _ (List.mem_cons_of_mem _ (List.mem_cons_self))))))))))) rfl
theorem mW202 : Cond.fieldLink RX8 109 "GrowingUrns$Urn" "colours" "I" ∈ gWs := gWs_tab (c_gT12 (List.mem_cons_of_mem _ (List.mem_cons_of_mem _ (List.mem_cons_of_mem _ (List.mem_cons_of_mem _ (List.mem_cons_of_mem _ (List.mem_cons_of_mem _ (List.mem_cons_of_mem _ (List.mem_cons_of_mem _ (List.mem_cons_of_mem _ (List.mem_cons_of_mem _ (List.mem_cons_self)))))))))))) rfl
theorem mW203 : Cond.fieldLink RX0 103 "GrowingUrns$Urn" "colours" "I" ∈ gWs := gWs_tab (c_gT12 (List.mem_cons_of_mem _ (List.mem_cons_of_mem _ (List.mem_cons_of_mem _ (List.mem_cons_of_mem _ (List.mem_cons_of_mem _ (List.mem_cons_of_mem _ (List.mem_cons_of_mem _ (List.mem_cons_of_mem _ (List.mem_cons_of_mem _ (List.mem_cons_of_mem _ (List.mem_cons_of_mem _ (List.mem_cons_self))))))))))))) rfl
theorem mW204 : Cond.fieldLink RX7 25 "GrowingUrns$Urn" "draws" "I" ∈ gWs := gWs_tab (c_gT12 (List.mem_cons_of_mem _ (List.mem_cons_of_mem _ (List.mem_cons_of_mem _ (List.mem_cons_of_mem _ (List.mem_cons_of_mem _ (List.mem_cons_of_mem _ (List.mem_cons_of_mem _ (List.mem_cons_of_mem _ (List.mem_cons_of_mem _ (List.mem_cons_of_mem _ (List.mem_cons_of_mem _ (List.mem_cons_of_mem _ (List.mem_cons_self)))))))))))))) rfl
theorem mW205 : Cond.fieldLink RX8 133 "GrowingUrns$Urn" "draws" "I" ∈ gWs := gWs_tab (c_gT12 (List.mem_cons_of_mem _ (List.mem_cons_of_mem _ (List.mem_cons_of_mem _ (List.mem_cons_of_mem _ (List.mem_cons_of_mem _ (List.mem_cons_of_mem _ (List.mem_cons_of_mem _ (List.mem_cons_of_mem _ (List.mem_cons_of_mem _ (List.mem_cons_of_mem _ (List.mem_cons_of_mem _ (List.mem_cons_of_mem _ (List.mem_cons_of_mem _ (List.mem_cons_self))))))))))))))) rfl
theorem mW206 : Cond.laysFinal RX7 "GrowingUrns$Urn" "balls" "[I" ∈ gWs := gWs_tab (c_gT12 (List.mem_cons_of_mem _ (List.mem_cons_of_mem _ (List.mem_cons_of_mem _ (List.mem_cons_of_mem _ (List.mem_cons_of_mem _ (List.mem_cons_of_mem _ (List.mem_cons_of_mem _ (List.mem_cons_of_mem _ (List.mem_cons_of_mem _ (List.mem_cons_of_mem _ (List.mem_cons_of_mem _ (List.mem_cons_of_mem _ (List.mem_cons_of_mem _ (List.mem_cons_of_mem _ (List.mem_cons_self)))))))))))))))) rfl
theorem c_gT13 {w : Cond} (h : w ∈ gT13) : w ∈ tables_1 := t_tables_1_1 (List.mem_append_right _ (List.mem_append_right _ (List.mem_append_right _ (List.mem_append_right _ (List.mem_append_right _ (List.mem_append_right _ (List.mem_append_right _ (List.mem_append_right _ (List.mem_append_right _ (List.mem_append_right _ (List.mem_append_right _ (List.mem_append_right _ (List.mem_append_right _ (List.mem_append_left _ h))))))))))))))
theorem mW208 : Cond.laysFinal RX7 "GrowingUrns$Urn" "table" "[I" ∈ gWs := gWs_tab (c_gT13 (List.mem_cons_self)) rfl
theorem mW210 : Cond.laysFinal RX7 "GrowingUrns$Urn" "under" "[I" ∈ gWs := gWs_tab (c_gT13 (List.mem_cons_of_mem _ (List.mem_cons_of_mem _ (List.mem_cons_self)))) rfl
theorem mW212 : Cond.lays RX7 "GrowingUrns$Urn" "colours" "I" ∈ gWs := gWs_tab (c_gT13 (List.mem_cons_of_mem _ (List.mem_cons_of_mem _ (List.mem_cons_of_mem _ (List.mem_cons_of_mem _ (List.mem_cons_self)))))) rfl
theorem mW214 : Cond.lays RX7 "GrowingUrns$Urn" "draws" "I" ∈ gWs := gWs_tab (c_gT13 (List.mem_cons_of_mem _ (List.mem_cons_of_mem _ (List.mem_cons_of_mem _ (List.mem_cons_of_mem _ (List.mem_cons_of_mem _ (List.mem_cons_of_mem _ (List.mem_cons_self)))))))) rfl
theorem mW217 : Cond.fieldLink RX8 11 "GrowingUrns" "sheets" "[LGrowingUrns$Sheet;" ∈ gWs := gWs_tab (c_gT13 (List.mem_cons_of_mem _ (List.mem_cons_of_mem _ (List.mem_cons_of_mem _ (List.mem_cons_of_mem _ (List.mem_cons_of_mem _ (List.mem_cons_of_mem _ (List.mem_cons_of_mem _ (List.mem_cons_of_mem _ (List.mem_cons_of_mem _ (List.mem_cons_self))))))))))) rfl
theorem mW218 : Cond.fieldLink RX8 17 "GrowingUrns" "urns" "[LGrowingUrns$Urn;" ∈ gWs := gWs_tab (c_gT13 (List.mem_cons_of_mem _ (List.mem_cons_of_mem _ (List.mem_cons_of_mem _ (List.mem_cons_of_mem _ (List.mem_cons_of_mem _ (List.mem_cons_of_mem _ (List.mem_cons_of_mem _ (List.mem_cons_of_mem _ (List.mem_cons_of_mem _ (List.mem_cons_of_mem _ (List.mem_cons_self)))))))))))) rfl
theorem mW219 : Cond.fieldLink RX8 24 "GrowingUrns" "kept" "LGrowingUrns$Kept;" ∈ gWs := gWs_tab (c_gT13 (List.mem_cons_of_mem _ (List.mem_cons_of_mem _ (List.mem_cons_of_mem _ (List.mem_cons_of_mem _ (List.mem_cons_of_mem _ (List.mem_cons_of_mem _ (List.mem_cons_of_mem _ (List.mem_cons_of_mem _ (List.mem_cons_of_mem _ (List.mem_cons_of_mem _ (List.mem_cons_of_mem _ (List.mem_cons_self))))))))))))) rfl
theorem mW220 : Cond.fieldLink RX8 31 "GrowingUrns" "path" "LGrowingUrns$Path;" ∈ gWs := gWs_tab (c_gT13 (List.mem_cons_of_mem _ (List.mem_cons_of_mem _ (List.mem_cons_of_mem _ (List.mem_cons_of_mem _ (List.mem_cons_of_mem _ (List.mem_cons_of_mem _ (List.mem_cons_of_mem _ (List.mem_cons_of_mem _ (List.mem_cons_of_mem _ (List.mem_cons_of_mem _ (List.mem_cons_of_mem _ (List.mem_cons_of_mem _ (List.mem_cons_self)))))))))))))) rfl
theorem mW221 : Cond.fieldLink RX8 38 "GrowingUrns" "tried" "LGrowingUrns$Row;" ∈ gWs := gWs_tab (c_gT13 (List.mem_cons_of_mem _ (List.mem_cons_of_mem _ (List.mem_cons_of_mem _ (List.mem_cons_of_mem _ (List.mem_cons_of_mem _ (List.mem_cons_of_mem _ (List.mem_cons_of_mem _ (List.mem_cons_of_mem _ (List.mem_cons_of_mem _ (List.mem_cons_of_mem _ (List.mem_cons_of_mem _ (List.mem_cons_of_mem _ (List.mem_cons_of_mem _ (List.mem_cons_self))))))))))))))) rfl
theorem mW222 : Cond.fieldLink RX8 45 "GrowingUrns" "orders" "LGrowingUrns$Orders;" ∈ gWs := gWs_tab (c_gT13 (List.mem_cons_of_mem _ (List.mem_cons_of_mem _ (List.mem_cons_of_mem _ (List.mem_cons_of_mem _ (List.mem_cons_of_mem _ (List.mem_cons_of_mem _ (List.mem_cons_of_mem _ (List.mem_cons_of_mem _ (List.mem_cons_of_mem _ (List.mem_cons_of_mem _ (List.mem_cons_of_mem _ (List.mem_cons_of_mem _ (List.mem_cons_of_mem _ (List.mem_cons_of_mem _ (List.mem_cons_self)))))))))))))))) rfl
theorem mW223 : Cond.fieldLink RX8 52 "GrowingUrns" "after" "LGrowingUrns$After;" ∈ gWs := gWs_tab (c_gT13 (List.mem_cons_of_mem _ (List.mem_cons_of_mem _ (List.mem_cons_of_mem _ (List.mem_cons_of_mem _ (List.mem_cons_of_mem _ (List.mem_cons_of_mem _ (List.mem_cons_of_mem _ (List.mem_cons_of_mem _ (List.mem_cons_of_mem _ (List.mem_cons_of_mem _ (List.mem_cons_of_mem _ (List.mem_cons_of_mem _ (List.mem_cons_of_mem _ (List.mem_cons_of_mem _ (List.mem_cons_of_mem _ (List.mem_cons_self))))))))))))))))) rfl
theorem c_gT14 {w : Cond} (h : w ∈ gT14) : w ∈ tables_1 := t_tables_1_1 (List.mem_append_right _ (List.mem_append_right _ (List.mem_append_right _ (List.mem_append_right _ (List.mem_append_right _ (List.mem_append_right _ (List.mem_append_right _ (List.mem_append_right _ (List.mem_append_right _ (List.mem_append_right _ (List.mem_append_right _ (List.mem_append_right _ (List.mem_append_right _ (List.mem_append_right _ (List.mem_append_left _ h)))))))))))))))
theorem mW224 : Cond.fieldLink RX8 59 "GrowingUrns" "fraction" "LGrowingUrns$Fraction;" ∈ gWs := gWs_tab (c_gT14 (List.mem_cons_self)) rfl
theorem mW225 : Cond.fieldLink RX8 63 "GrowingUrns" "made" "I" ∈ gWs := gWs_tab (c_gT14 (List.mem_cons_of_mem _ (List.mem_cons_self))) rfl
theorem mW226 : Cond.fieldLink RX8 67 "GrowingUrns" "seed" "I" ∈ gWs := gWs_tab (c_gT14 (List.mem_cons_of_mem _ (List.mem_cons_of_mem _ (List.mem_cons_self)))) rfl
theorem mW227 : Cond.laysFinal RX8 "GrowingUrns" "sheets" "[LGrowingUrns$Sheet;" ∈ gWs := gWs_tab (c_gT14 (List.mem_cons_of_mem _ (List.mem_cons_of_mem _ (List.mem_cons_of_mem _ (List.mem_cons_self))))) rfl
theorem mW229 : Cond.laysFinal RX8 "GrowingUrns" "urns" "[LGrowingUrns$Urn;" ∈ gWs := gWs_tab (c_gT14 (List.mem_cons_of_mem _ (List.mem_cons_of_mem _ (List.mem_cons_of_mem _ (List.mem_cons_of_mem _ (List.mem_cons_of_mem _ (List.mem_cons_self))))))) rfl
theorem mW231 : Cond.laysFinal RX8 "GrowingUrns" "kept" "LGrowingUrns$Kept;" ∈ gWs := gWs_tab (c_gT14 (List.mem_cons_of_mem _ (List.mem_cons_of_mem _ (List.mem_cons_of_mem _ (List.mem_cons_of_mem _ (List.mem_cons_of_mem _ (List.mem_cons_of_mem _ (List.mem_cons_of_mem _ (List.mem_cons_self))))))))) rfl
theorem mW233 : Cond.laysFinal RX8 "GrowingUrns" "path" "LGrowingUrns$Path;" ∈ gWs := gWs_tab (c_gT14 (List.mem_cons_of_mem _ (List.mem_cons_of_mem _ (List.mem_cons_of_mem _ (List.mem_cons_of_mem _ (List.mem_cons_of_mem _ (List.mem_cons_of_mem _ (List.mem_cons_of_mem _ (List.mem_cons_of_mem _ (List.mem_cons_of_mem _ (List.mem_cons_self))))))))))) rfl
theorem mW235 : Cond.laysFinal RX8 "GrowingUrns" "tried" "LGrowingUrns$Row;" ∈ gWs := gWs_tab (c_gT14 (List.mem_cons_of_mem _ (List.mem_cons_of_mem _ (List.mem_cons_of_mem _ (List.mem_cons_of_mem _ (List.mem_cons_of_mem _ (List.mem_cons_of_mem _ (List.mem_cons_of_mem _ (List.mem_cons_of_mem _ (List.mem_cons_of_mem _ (List.mem_cons_of_mem _ (List.mem_cons_of_mem _ (List.mem_cons_self))))))))))))) rfl
theorem mW237 : Cond.laysFinal RX8 "GrowingUrns" "orders" "LGrowingUrns$Orders;" ∈ gWs := gWs_tab (c_gT14 (List.mem_cons_of_mem _ (List.mem_cons_of_mem _ (List.mem_cons_of_mem _ (List.mem_cons_of_mem _ (List.mem_cons_of_mem _ (List.mem_cons_of_mem _ (List.mem_cons_of_mem _ (List.mem_cons_of_mem _ (List.mem_cons_of_mem _ (List.mem_cons_of_mem _ (List.mem_cons_of_mem _ (List.mem_cons_of_mem _ (List.mem_cons_of_mem _ (List.mem_cons_self))))))))))))))) rfl
theorem mW239 : Cond.laysFinal RX8 "GrowingUrns" "after" "LGrowingUrns$After;" ∈ gWs := gWs_tab (c_gT14 (List.mem_cons_of_mem _ (List.mem_cons_of_mem _ (List.mem_cons_of_mem _ (List.mem_cons_of_mem _ (List.mem_cons_of_mem _ (List.mem_cons_of_mem _ (List.mem_cons_of_mem _ (List.mem_cons_of_mem _ (List.mem_cons_of_mem _ (List.mem_cons_of_mem _ (List.mem_cons_of_mem _ (List.mem_cons_of_mem _ (List.mem_cons_of_mem _ (List.mem_cons_of_mem _ (List.mem_cons_of_mem _ (List.mem_cons_self))))))))))))))))) rfl
theorem c_gT15 {w : Cond} (h : w ∈ gT15) : w ∈ tables_1 := t_tables_1_2 (List.mem_append_left _ h)
theorem mW241 : Cond.laysFinal RX8 "GrowingUrns" "fraction" "LGrowingUrns$Fraction;" ∈ gWs := gWs_tab (c_gT15 (List.mem_cons_of_mem _ (List.mem_cons_self))) rfl
theorem mW243 : Cond.lays RX8 "GrowingUrns" "made" "I" ∈ gWs := gWs_tab (c_gT15 (List.mem_cons_of_mem _ (List.mem_cons_of_mem _ (List.mem_cons_of_mem _ (List.mem_cons_self))))) rfl
theorem mW245 : Cond.lays RX8 "GrowingUrns" "seed" "I" ∈ gWs := gWs_tab (c_gT15 (List.mem_cons_of_mem _ (List.mem_cons_of_mem _ (List.mem_cons_of_mem _ (List.mem_cons_of_mem _ (List.mem_cons_of_mem _ (List.mem_cons_self))))))) rfl
theorem mW248 : Cond.methodLink RL 13 yX8_sheet ∈ gWs := gWs_tab (c_gT15 (List.mem_cons_of_mem _ (List.mem_cons_of_mem _ (List.mem_cons_of_mem _ (List.mem_cons_of_mem _ (List.mem_cons_of_mem _ (List.mem_cons_of_mem _ (List.mem_cons_of_mem _ (List.mem_cons_of_mem _ (List.mem_cons_self)))))))))) rfl
theorem mW249 : Cond.instanceMethod yX8_sheet ∈ gWs := gWs_tab (c_gT15 (List.mem_cons_of_mem _ (List.mem_cons_of_mem _ (List.mem_cons_of_mem _ (List.mem_cons_of_mem _ (List.mem_cons_of_mem _ (List.mem_cons_of_mem _ (List.mem_cons_of_mem _ (List.mem_cons_of_mem _ (List.mem_cons_of_mem _ (List.mem_cons_self))))))))))) rfl
theorem mW250 : Cond.selects RX8 yX8_sheet yX8_sheet ∈ gWs := gWs_tab (c_gT15 (List.mem_cons_of_mem _ (List.mem_cons_of_mem _ (List.mem_cons_of_mem _ (List.mem_cons_of_mem _ (List.mem_cons_of_mem _ (List.mem_cons_of_mem _ (List.mem_cons_of_mem _ (List.mem_cons_of_mem _ (List.mem_cons_of_mem _ (List.mem_cons_of_mem _ (List.mem_cons_self)))))))))))) rfl
theorem mW251 : Cond.code yX8_sheet cX8_sheet 5 (some .int) ∈ gWs := gWs_tab (c_gT15 (List.mem_cons_of_mem _ (List.mem_cons_of_mem _ (List.mem_cons_of_mem _ (List.mem_cons_of_mem _ (List.mem_cons_of_mem _ (List.mem_cons_of_mem _ (List.mem_cons_of_mem _ (List.mem_cons_of_mem _ (List.mem_cons_of_mem _ (List.mem_cons_of_mem _ (List.mem_cons_of_mem _ (List.mem_cons_self))))))))))))) rfl
theorem mW252 : Cond.methodLink RX8 72 yX8_sheetAt ∈ gWs := gWs_tab (c_gT15 (List.mem_cons_of_mem _ (List.mem_cons_of_mem _ (List.mem_cons_of_mem _ (List.mem_cons_of_mem _ (List.mem_cons_of_mem _ (List.mem_cons_of_mem _ (List.mem_cons_of_mem _ (List.mem_cons_of_mem _ (List.mem_cons_of_mem _ (List.mem_cons_of_mem _ (List.mem_cons_of_mem _ (List.mem_cons_of_mem _ (List.mem_cons_self)))))))))))))) rfl
theorem mW254 : Cond.instanceMethod yX8_sheetAt ∈ gWs := gWs_tab (c_gT15 (List.mem_cons_of_mem _ (List.mem_cons_of_mem _ (List.mem_cons_of_mem _ (List.mem_cons_of_mem _ (List.mem_cons_of_mem _ (List.mem_cons_of_mem _ (List.mem_cons_of_mem _ (List.mem_cons_of_mem _ (List.mem_cons_of_mem _ (List.mem_cons_of_mem _ (List.mem_cons_of_mem _ (List.mem_cons_of_mem _ (List.mem_cons_of_mem _ (List.mem_cons_of_mem _ (List.mem_cons_self)))))))))))))))) rfl
theorem mW255 : Cond.code yX8_sheetAt cX8_sheetAt 2 (some (.object "GrowingUrns$Sheet")) ∈ gWs := gWs_tab (c_gT15 (List.mem_cons_of_mem _ (List.mem_cons_of_mem _ (List.mem_cons_of_mem _ (List.mem_cons_of_mem _ (List.mem_cons_of_mem _ (List.mem_cons_of_mem _ (List.mem_cons_of_mem _ (List.mem_cons_of_mem _ (List.mem_cons_of_mem _ (List.mem_cons_of_mem _ (List.mem_cons_of_mem _ (List.mem_cons_of_mem _ (List.mem_cons_of_mem _ (List.mem_cons_of_mem _ (List.mem_cons_of_mem _ (List.mem_cons_self))))))))))))))))) rfl
theorem c_gT16 {w : Cond} (h : w ∈ gT16) : w ∈ tables_1 := t_tables_1_2 (List.mem_append_right _ (List.mem_append_left _ h))
theorem mW256 : Cond.methodLink RX8 76 yX6_become ∈ gWs := gWs_tab (c_gT16 (List.mem_cons_self)) rfl
theorem mW257 : Cond.instanceMethod yX6_become ∈ gWs := gWs_tab (c_gT16 (List.mem_cons_of_mem _ (List.mem_cons_self))) rfl
theorem mW258 : Cond.selects RX6 yX6_become yX6_become ∈ gWs := gWs_tab (c_gT16 (List.mem_cons_of_mem _ (List.mem_cons_of_mem _ (List.mem_cons_self)))) rfl
theorem mW259 : Cond.code yX6_become cX6_become 3 none ∈ gWs := gWs_tab (c_gT16 (List.mem_cons_of_mem _ (List.mem_cons_of_mem _ (List.mem_cons_of_mem _ (List.mem_cons_self))))) rfl
theorem mW260 : Cond.methodLink RX6 22 yJ7_fill_d0a16 ∈ gWs := gWs_tab (c_gT16 (List.mem_cons_of_mem _ (List.mem_cons_of_mem _ (List.mem_cons_of_mem _ (List.mem_cons_of_mem _ (List.mem_cons_self)))))) rfl
theorem mW261 : Cond.static yJ7_fill_d0a16 ∈ gWs := gWs_tab (c_gT16 (List.mem_cons_of_mem _ (List.mem_cons_of_mem _ (List.mem_cons_of_mem _ (List.mem_cons_of_mem _ (List.mem_cons_of_mem _ (List.mem_cons_self))))))) rfl
theorem mW262 : Cond.code yJ7_fill_d0a16 cJ7_fill_d0a16 5 none ∈ gWs := gWs_tab (c_gT16 (List.mem_cons_of_mem _ (List.mem_cons_of_mem _ (List.mem_cons_of_mem _ (List.mem_cons_of_mem _ (List.mem_cons_of_mem _ (List.mem_cons_of_mem _ (List.mem_cons_self)))))))) rfl
theorem mW263 : Cond.methodLink RL 20 yX8_lay ∈ gWs := gWs_tab (c_gT16 (List.mem_cons_of_mem _ (List.mem_cons_of_mem _ (List.mem_cons_of_mem _ (List.mem_cons_of_mem _ (List.mem_cons_of_mem _ (List.mem_cons_of_mem _ (List.mem_cons_of_mem _ (List.mem_cons_self))))))))) rfl
theorem mW264 : Cond.instanceMethod yX8_lay ∈ gWs := gWs_tab (c_gT16 (List.mem_cons_of_mem _ (List.mem_cons_of_mem _ (List.mem_cons_of_mem _ (List.mem_cons_of_mem _ (List.mem_cons_of_mem _ (List.mem_cons_of_mem _ (List.mem_cons_of_mem _ (List.mem_cons_of_mem _ (List.mem_cons_self)))))))))) rfl
theorem mW265 : Cond.selects RX8 yX8_lay yX8_lay ∈ gWs := gWs_tab (c_gT16 (List.mem_cons_of_mem _ (List.mem_cons_of_mem _ (List.mem_cons_of_mem _ (List.mem_cons_of_mem _ (List.mem_cons_of_mem _ (List.mem_cons_of_mem _ (List.mem_cons_of_mem _ (List.mem_cons_of_mem _ (List.mem_cons_of_mem _ (List.mem_cons_self))))))))))) rfl
theorem mW266 : Cond.code yX8_lay cX8_lay 6 (some .int) ∈ gWs := gWs_tab (c_gT16 (List.mem_cons_of_mem _ (List.mem_cons_of_mem _ (List.mem_cons_of_mem _ (List.mem_cons_of_mem _ (List.mem_cons_of_mem _ (List.mem_cons_of_mem _ (List.mem_cons_of_mem _ (List.mem_cons_of_mem _ (List.mem_cons_of_mem _ (List.mem_cons_of_mem _ (List.mem_cons_self)))))))))))) rfl
theorem mW267 : Cond.methodLink RX8 83 yX6_reaches ∈ gWs := gWs_tab (c_gT16 (List.mem_cons_of_mem _ (List.mem_cons_of_mem _ (List.mem_cons_of_mem _ (List.mem_cons_of_mem _ (List.mem_cons_of_mem _ (List.mem_cons_of_mem _ (List.mem_cons_of_mem _ (List.mem_cons_of_mem _ (List.mem_cons_of_mem _ (List.mem_cons_of_mem _ (List.mem_cons_of_mem _ (List.mem_cons_self))))))))))))) rfl
theorem mW268 : Cond.instanceMethod yX6_reaches ∈ gWs := gWs_tab (c_gT16 (List.mem_cons_of_mem _ (List.mem_cons_of_mem _ (List.mem_cons_of_mem _ (List.mem_cons_of_mem _ (List.mem_cons_of_mem _ (List.mem_cons_of_mem _ (List.mem_cons_of_mem _ (List.mem_cons_of_mem _ (List.mem_cons_of_mem _ (List.mem_cons_of_mem _ (List.mem_cons_of_mem _ (List.mem_cons_of_mem _ (List.mem_cons_self)))))))))))))) rfl
theorem mW269 : Cond.selects RX6 yX6_reaches yX6_reaches ∈ gWs := gWs_tab (c_gT16 (List.mem_cons_of_mem _ (List.mem_cons_of_mem _ (List.mem_cons_of_mem _ (List.mem_cons_of_mem _ (List.mem_cons_of_mem _ (List.mem_cons_of_mem _ (List.mem_cons_of_mem _ (List.mem_cons_of_mem _ (List.mem_cons_of_mem _ (List.mem_cons_of_mem _ (List.mem_cons_of_mem _ (List.mem_cons_of_mem _ (List.mem_cons_of_mem _ (List.mem_cons_self))))))))))))))) rfl
theorem mW270 : Cond.code yX6_reaches cX6_reaches 3 (some .boolean) ∈ gWs := gWs_tab (c_gT16 (List.mem_cons_of_mem _ (List.mem_cons_of_mem _ (List.mem_cons_of_mem _ (List.mem_cons_of_mem _ (List.mem_cons_of_mem _ (List.mem_cons_of_mem _ (List.mem_cons_of_mem _ (List.mem_cons_of_mem _ (List.mem_cons_of_mem _ (List.mem_cons_of_mem _ (List.mem_cons_of_mem _ (List.mem_cons_of_mem _ (List.mem_cons_of_mem _ (List.mem_cons_of_mem _ (List.mem_cons_self)))))))))))))))) rfl
theorem mW271 : Cond.methodLink RX8 91 yX6_cut ∈ gWs := gWs_tab (c_gT16 (List.mem_cons_of_mem _ (List.mem_cons_of_mem _ (List.mem_cons_of_mem _ (List.mem_cons_of_mem _ (List.mem_cons_of_mem _ (List.mem_cons_of_mem _ (List.mem_cons_of_mem _ (List.mem_cons_of_mem _ (List.mem_cons_of_mem _ (List.mem_cons_of_mem _ (List.mem_cons_of_mem _ (List.mem_cons_of_mem _ (List.mem_cons_of_mem _ (List.mem_cons_of_mem _ (List.mem_cons_of_mem _ (List.mem_cons_self))))))))))))))))) rfl
theorem c_gT17 {w : Cond} (h : w ∈ gT17) : w ∈ tables_1 := t_tables_1_2 (List.mem_append_right _ (List.mem_append_right _ (List.mem_append_left _ h)))
theorem mW272 : Cond.instanceMethod yX6_cut ∈ gWs := gWs_tab (c_gT17 (List.mem_cons_self)) rfl
theorem mW273 : Cond.selects RX6 yX6_cut yX6_cut ∈ gWs := gWs_tab (c_gT17 (List.mem_cons_of_mem _ (List.mem_cons_self))) rfl
theorem mW274 : Cond.code yX6_cut cX6_cut 3 (some .long) ∈ gWs := gWs_tab (c_gT17 (List.mem_cons_of_mem _ (List.mem_cons_of_mem _ (List.mem_cons_self)))) rfl
theorem mW275 : Cond.methodLink RL 25 yX8_copy ∈ gWs := gWs_tab (c_gT17 (List.mem_cons_of_mem _ (List.mem_cons_of_mem _ (List.mem_cons_of_mem _ (List.mem_cons_self))))) rfl
theorem mW276 : Cond.instanceMethod yX8_copy ∈ gWs := gWs_tab (c_gT17 (List.mem_cons_of_mem _ (List.mem_cons_of_mem _ (List.mem_cons_of_mem _ (List.mem_cons_of_mem _ (List.mem_cons_self)))))) rfl
theorem mW277 : Cond.selects RX8 yX8_copy yX8_copy ∈ gWs := gWs_tab (c_gT17 (List.mem_cons_of_mem _ (List.mem_cons_of_mem _ (List.mem_cons_of_mem _ (List.mem_cons_of_mem _ (List.mem_cons_of_mem _ (List.mem_cons_self))))))) rfl
theorem mW278 : Cond.code yX8_copy cX8_copy 8 (some .int) ∈ gWs := gWs_tab (c_gT17 (List.mem_cons_of_mem _ (List.mem_cons_of_mem _ (List.mem_cons_of_mem _ (List.mem_cons_of_mem _ (List.mem_cons_of_mem _ (List.mem_cons_of_mem _ (List.mem_cons_self)))))))) rfl
theorem mW279 : Cond.methodLink RX8 95 arraycopyName ∈ gWs := gWs_tab (c_gT17 (List.mem_cons_of_mem _ (List.mem_cons_of_mem _ (List.mem_cons_of_mem _ (List.mem_cons_of_mem _ (List.mem_cons_of_mem _ (List.mem_cons_of_mem _ (List.mem_cons_of_mem _ (List.mem_cons_self))))))))) rfl
theorem mW280 : Cond.static arraycopyName ∈ gWs := gWs_tab (c_gT17 (List.mem_cons_of_mem _ (List.mem_cons_of_mem _ (List.mem_cons_of_mem _ (List.mem_cons_of_mem _ (List.mem_cons_of_mem _ (List.mem_cons_of_mem _ (List.mem_cons_of_mem _ (List.mem_cons_of_mem _ (List.mem_cons_self)))))))))) rfl
theorem mW281 : Cond.native arraycopyName ∈ gWs := gWs_tab (c_gT17 (List.mem_cons_of_mem _ (List.mem_cons_of_mem _ (List.mem_cons_of_mem _ (List.mem_cons_of_mem _ (List.mem_cons_of_mem _ (List.mem_cons_of_mem _ (List.mem_cons_of_mem _ (List.mem_cons_of_mem _ (List.mem_cons_of_mem _ (List.mem_cons_self))))))))))) rfl
theorem mW282 : Cond.methodLink RL 30 yX8_holds ∈ gWs := gWs_tab (c_gT17 (List.mem_cons_of_mem _ (List.mem_cons_of_mem _ (List.mem_cons_of_mem _ (List.mem_cons_of_mem _ (List.mem_cons_of_mem _ (List.mem_cons_of_mem _ (List.mem_cons_of_mem _ (List.mem_cons_of_mem _ (List.mem_cons_of_mem _ (List.mem_cons_of_mem _ (List.mem_cons_self)))))))))))) rfl
theorem mW283 : Cond.instanceMethod yX8_holds ∈ gWs := gWs_tab (c_gT17 (List.mem_cons_of_mem _ (List.mem_cons_of_mem _ (List.mem_cons_of_mem _ (List.mem_cons_of_mem _ (List.mem_cons_of_mem _ (List.mem_cons_of_mem _ (List.mem_cons_of_mem _ (List.mem_cons_of_mem _ (List.mem_cons_of_mem _ (List.mem_cons_of_mem _ (List.mem_cons_of_mem _ (List.mem_cons_self))))))))))))) rfl
theorem mW284 : Cond.selects RX8 yX8_holds yX8_holds ∈ gWs := gWs_tab (c_gT17 (List.mem_cons_of_mem _ (List.mem_cons_of_mem _ (List.mem_cons_of_mem _ (List.mem_cons_of_mem _ (List.mem_cons_of_mem _ (List.mem_cons_of_mem _ (List.mem_cons_of_mem _ (List.mem_cons_of_mem _ (List.mem_cons_of_mem _ (List.mem_cons_of_mem _ (List.mem_cons_of_mem _ (List.mem_cons_of_mem _ (List.mem_cons_self)))))))))))))) rfl
theorem mW285 : Cond.code yX8_holds cX8_holds 6 (some .int) ∈ gWs := gWs_tab (c_gT17 (List.mem_cons_of_mem _ (List.mem_cons_of_mem _ (List.mem_cons_of_mem _ (List.mem_cons_of_mem _ (List.mem_cons_of_mem _ (List.mem_cons_of_mem _ (List.mem_cons_of_mem _ (List.mem_cons_of_mem _ (List.mem_cons_of_mem _ (List.mem_cons_of_mem _ (List.mem_cons_of_mem _ (List.mem_cons_of_mem _ (List.mem_cons_of_mem _ (List.mem_cons_self))))))))))))))) rfl
theorem mW286 : Cond.methodLink RL 34 yX8_read ∈ gWs := gWs_tab (c_gT17 (List.mem_cons_of_mem _ (List.mem_cons_of_mem _ (List.mem_cons_of_mem _ (List.mem_cons_of_mem _ (List.mem_cons_of_mem _ (List.mem_cons_of_mem _ (List.mem_cons_of_mem _ (List.mem_cons_of_mem _ (List.mem_cons_of_mem _ (List.mem_cons_of_mem _ (List.mem_cons_of_mem _ (List.mem_cons_of_mem _ (List.mem_cons_of_mem _ (List.mem_cons_of_mem _ (List.mem_cons_self)))))))))))))))) rfl
theorem mW287 : Cond.instanceMethod yX8_read ∈ gWs := gWs_tab (c_gT17 (List.mem_cons_of_mem _ (List.mem_cons_of_mem _ (List.mem_cons_of_mem _ (List.mem_cons_of_mem _ (List.mem_cons_of_mem _ (List.mem_cons_of_mem _ (List.mem_cons_of_mem _ (List.mem_cons_of_mem _ (List.mem_cons_of_mem _ (List.mem_cons_of_mem _ (List.mem_cons_of_mem _ (List.mem_cons_of_mem _ (List.mem_cons_of_mem _ (List.mem_cons_of_mem _ (List.mem_cons_of_mem _ (List.mem_cons_self))))))))))))))))) rfl
theorem c_gT18 {w : Cond} (h : w ∈ gT18) : w ∈ tables_1 := t_tables_1_2 (List.mem_append_right _ (List.mem_append_right _ (List.mem_append_right _ (List.mem_append_left _ h))))
theorem mW288 : Cond.selects RX8 yX8_read yX8_read ∈ gWs := gWs_tab (c_gT18 (List.mem_cons_self)) rfl
theorem mW289 : Cond.code yX8_read cX8_read 13 (some .int) ∈ gWs := gWs_tab (c_gT18 (List.mem_cons_of_mem _ (List.mem_cons_self))) rfl
theorem mW290 : Cond.methodLink RX8 101 yX8_urnAt ∈ gWs := gWs_tab (c_gT18 (List.mem_cons_of_mem _ (List.mem_cons_of_mem _ (List.mem_cons_self)))) rfl
theorem mW292 : Cond.instanceMethod yX8_urnAt ∈ gWs := gWs_tab (c_gT18 (List.mem_cons_of_mem _ (List.mem_cons_of_mem _ (List.mem_cons_of_mem _ (List.mem_cons_of_mem _ (List.mem_cons_self)))))) rfl
theorem mW293 : Cond.code yX8_urnAt cX8_urnAt 2 (some (.object "GrowingUrns$Urn")) ∈ gWs := gWs_tab (c_gT18 (List.mem_cons_of_mem _ (List.mem_cons_of_mem _ (List.mem_cons_of_mem _ (List.mem_cons_of_mem _ (List.mem_cons_of_mem _ (List.mem_cons_self))))))) rfl
theorem mW294 : Cond.methodLink RX8 105 yX7_has ∈ gWs := gWs_tab (c_gT18 (List.mem_cons_of_mem _ (List.mem_cons_of_mem _ (List.mem_cons_of_mem _ (List.mem_cons_of_mem _ (List.mem_cons_of_mem _ (List.mem_cons_of_mem _ (List.mem_cons_self)))))))) rfl
theorem mW295 : Cond.instanceMethod yX7_has ∈ gWs := gWs_tab (c_gT18 (List.mem_cons_of_mem _ (List.mem_cons_of_mem _ (List.mem_cons_of_mem _ (List.mem_cons_of_mem _ (List.mem_cons_of_mem _ (List.mem_cons_of_mem _ (List.mem_cons_of_mem _ (List.mem_cons_self))))))))) rfl
theorem mW296 : Cond.selects RX7 yX7_has yX7_has ∈ gWs := gWs_tab (c_gT18 (List.mem_cons_of_mem _ (List.mem_cons_of_mem _ (List.mem_cons_of_mem _ (List.mem_cons_of_mem _ (List.mem_cons_of_mem _ (List.mem_cons_of_mem _ (List.mem_cons_of_mem _ (List.mem_cons_of_mem _ (List.mem_cons_self)))))))))) rfl
theorem mW297 : Cond.code yX7_has cX7_has 2 (some .boolean) ∈ gWs := gWs_tab (c_gT18 (List.mem_cons_of_mem _ (List.mem_cons_of_mem _ (List.mem_cons_of_mem _ (List.mem_cons_of_mem _ (List.mem_cons_of_mem _ (List.mem_cons_of_mem _ (List.mem_cons_of_mem _ (List.mem_cons_of_mem _ (List.mem_cons_of_mem _ (List.mem_cons_self))))))))))) rfl
theorem mW298 : Cond.methodLink RX8 112 yX6_liesWithin ∈ gWs := gWs_tab (c_gT18 (List.mem_cons_of_mem _ (List.mem_cons_of_mem _ (List.mem_cons_of_mem _ (List.mem_cons_of_mem _ (List.mem_cons_of_mem _ (List.mem_cons_of_mem _ (List.mem_cons_of_mem _ (List.mem_cons_of_mem _ (List.mem_cons_of_mem _ (List.mem_cons_of_mem _ (List.mem_cons_self)))))))))))) rfl
theorem mW299 : Cond.instanceMethod yX6_liesWithin ∈ gWs := gWs_tab (c_gT18 (List.mem_cons_of_mem _ (List.mem_cons_of_mem _ (List.mem_cons_of_mem _ (List.mem_cons_of_mem _ (List.mem_cons_of_mem _ (List.mem_cons_of_mem _ (List.mem_cons_of_mem _ (List.mem_cons_of_mem _ (List.mem_cons_of_mem _ (List.mem_cons_of_mem _ (List.mem_cons_of_mem _ (List.mem_cons_self))))))))))))) rfl
theorem mW300 : Cond.selects RX6 yX6_liesWithin yX6_liesWithin ∈ gWs := gWs_tab (c_gT18 (List.mem_cons_of_mem _ (List.mem_cons_of_mem _ (List.mem_cons_of_mem _ (List.mem_cons_of_mem _ (List.mem_cons_of_mem _ (List.mem_cons_of_mem _ (List.mem_cons_of_mem _ (List.mem_cons_of_mem _ (List.mem_cons_of_mem _ (List.mem_cons_of_mem _ (List.mem_cons_of_mem _ (List.mem_cons_of_mem _ (List.mem_cons_self)))))))))))))) rfl
theorem mW301 : Cond.code yX6_liesWithin cX6_liesWithin 6 (some .boolean) ∈ gWs := gWs_tab (c_gT18 (List.mem_cons_of_mem _ (List.mem_cons_of_mem _ (List.mem_cons_of_mem _ (List.mem_cons_of_mem _ (List.mem_cons_of_mem _ (List.mem_cons_of_mem _ (List.mem_cons_of_mem _ (List.mem_cons_of_mem _ (List.mem_cons_of_mem _ (List.mem_cons_of_mem _ (List.mem_cons_of_mem _ (List.mem_cons_of_mem _ (List.mem_cons_of_mem _ (List.mem_cons_self))))))))))))))) rfl
theorem mW302 : Cond.methodLink RX8 116 yX8_keepAct ∈ gWs := gWs_tab (c_gT18 (List.mem_cons_of_mem _ (List.mem_cons_of_mem _ (List.mem_cons_of_mem _ (List.mem_cons_of_mem _ (List.mem_cons_of_mem _ (List.mem_cons_of_mem _ (List.mem_cons_of_mem _ (List.mem_cons_of_mem _ (List.mem_cons_of_mem _ (List.mem_cons_of_mem _ (List.mem_cons_of_mem _ (List.mem_cons_of_mem _ (List.mem_cons_of_mem _ (List.mem_cons_of_mem _ (List.mem_cons_self)))))))))))))))) rfl
theorem c_gT19 {w : Cond} (h : w ∈ gT19) : w ∈ tables_1 := t_tables_1_2 (List.mem_append_right _ (List.mem_append_right _ (List.mem_append_right _ (List.mem_append_right _ (List.mem_append_left _ h)))))
theorem mW304 : Cond.instanceMethod yX8_keepAct ∈ gWs := gWs_tab (c_gT19 (List.mem_cons_self)) rfl
theorem mW305 : Cond.code yX8_keepAct cX8_keepAct 3 none ∈ gWs := gWs_tab (c_gT19 (List.mem_cons_of_mem _ (List.mem_cons_self))) rfl
theorem mW306 : Cond.methodLink RX8 255 yX2_nextRow ∈ gWs := gWs_tab (c_gT19 (List.mem_cons_of_mem _ (List.mem_cons_of_mem _ (List.mem_cons_self)))) rfl
theorem mW307 : Cond.instanceMethod yX2_nextRow ∈ gWs := gWs_tab (c_gT19 (List.mem_cons_of_mem _ (List.mem_cons_of_mem _ (List.mem_cons_of_mem _ (List.mem_cons_self))))) rfl
theorem mW308 : Cond.selects RX2 yX2_nextRow yX2_nextRow ∈ gWs := gWs_tab (c_gT19 (List.mem_cons_of_mem _ (List.mem_cons_of_mem _ (List.mem_cons_of_mem _ (List.mem_cons_of_mem _ (List.mem_cons_self)))))) rfl
theorem mW309 : Cond.code yX2_nextRow cX2_nextRow 2 (some (.array .int)) ∈ gWs := gWs_tab (c_gT19 (List.mem_cons_of_mem _ (List.mem_cons_of_mem _ (List.mem_cons_of_mem _ (List.mem_cons_of_mem _ (List.mem_cons_of_mem _ (List.mem_cons_self))))))) rfl
theorem mW310 : Cond.methodLink RX8 258 yX7_goInto ∈ gWs := gWs_tab (c_gT19 (List.mem_cons_of_mem _ (List.mem_cons_of_mem _ (List.mem_cons_of_mem _ (List.mem_cons_of_mem _ (List.mem_cons_of_mem _ (List.mem_cons_of_mem _ (List.mem_cons_self)))))))) rfl
theorem mW311 : Cond.instanceMethod yX7_goInto ∈ gWs := gWs_tab (c_gT19 (List.mem_cons_of_mem _ (List.mem_cons_of_mem _ (List.mem_cons_of_mem _ (List.mem_cons_of_mem _ (List.mem_cons_of_mem _ (List.mem_cons_of_mem _ (List.mem_cons_of_mem _ (List.mem_cons_self))))))))) rfl
theorem mW312 : Cond.selects RX7 yX7_goInto yX7_goInto ∈ gWs := gWs_tab (c_gT19 (List.mem_cons_of_mem _ (List.mem_cons_of_mem _ (List.mem_cons_of_mem _ (List.mem_cons_of_mem _ (List.mem_cons_of_mem _ (List.mem_cons_of_mem _ (List.mem_cons_of_mem _ (List.mem_cons_of_mem _ (List.mem_cons_self)))))))))) rfl
theorem mW313 : Cond.code yX7_goInto cX7_goInto 3 none ∈ gWs := gWs_tab (c_gT19 (List.mem_cons_of_mem _ (List.mem_cons_of_mem _ (List.mem_cons_of_mem _ (List.mem_cons_of_mem _ (List.mem_cons_of_mem _ (List.mem_cons_of_mem _ (List.mem_cons_of_mem _ (List.mem_cons_of_mem _ (List.mem_cons_of_mem _ (List.mem_cons_self))))))))))) rfl
theorem mW314 : Cond.methodLink RX7 45 arraycopyName ∈ gWs := gWs_tab (c_gT19 (List.mem_cons_of_mem _ (List.mem_cons_of_mem _ (List.mem_cons_of_mem _ (List.mem_cons_of_mem _ (List.mem_cons_of_mem _ (List.mem_cons_of_mem _ (List.mem_cons_of_mem _ (List.mem_cons_of_mem _ (List.mem_cons_of_mem _ (List.mem_cons_of_mem _ (List.mem_cons_self)))))))))))) rfl
theorem mW315 : Cond.methodLink RL 38 yX8_urn ∈ gWs := gWs_tab (c_gT19 (List.mem_cons_of_mem _ (List.mem_cons_of_mem _ (List.mem_cons_of_mem _ (List.mem_cons_of_mem _ (List.mem_cons_of_mem _ (List.mem_cons_of_mem _ (List.mem_cons_of_mem _ (List.mem_cons_of_mem _ (List.mem_cons_of_mem _ (List.mem_cons_of_mem _ (List.mem_cons_of_mem _ (List.mem_cons_self))))))))))))) rfl
theorem mW316 : Cond.instanceMethod yX8_urn ∈ gWs := gWs_tab (c_gT19 (List.mem_cons_of_mem _ (List.mem_cons_of_mem _ (List.mem_cons_of_mem _ (List.mem_cons_of_mem _ (List.mem_cons_of_mem _ (List.mem_cons_of_mem _ (List.mem_cons_of_mem _ (List.mem_cons_of_mem _ (List.mem_cons_of_mem _ (List.mem_cons_of_mem _ (List.mem_cons_of_mem _ (List.mem_cons_of_mem _ (List.mem_cons_self)))))))))))))) rfl
theorem mW317 : Cond.selects RX8 yX8_urn yX8_urn ∈ gWs := gWs_tab (c_gT19 (List.mem_cons_of_mem _ (List.mem_cons_of_mem _ (List.mem_cons_of_mem _ (List.mem_cons_of_mem _ (List.mem_cons_of_mem _ (List.mem_cons_of_mem _ (List.mem_cons_of_mem _ (List.mem_cons_of_mem _ (List.mem_cons_of_mem _ (List.mem_cons_of_mem _ (List.mem_cons_of_mem _ (List.mem_cons_of_mem _ (List.mem_cons_of_mem _ (List.mem_cons_self))))))))))))))) rfl
theorem mW318 : Cond.code yX8_urn cX8_urn 2 (some .int) ∈ gWs := gWs_tab (c_gT19 (List.mem_cons_of_mem _ (List.mem_cons_of_mem _ (List.mem_cons_of_mem _ (List.mem_cons_of_mem _ (List.mem_cons_of_mem _ (List.mem_cons_of_mem _ (List.mem_cons_of_mem _ (List.mem_cons_of_mem _ (List.mem_cons_of_mem _ (List.mem_cons_of_mem _ (List.mem_cons_of_mem _ (List.mem_cons_of_mem _ (List.mem_cons_of_mem _ (List.mem_cons_of_mem _ (List.mem_cons_self)))))))))))))))) rfl
theorem mW319 : Cond.methodLink RL 43 yX8_put ∈ gWs := gWs_tab (c_gT19 (List.mem_cons_of_mem _ (List.mem_cons_of_mem _ (List.mem_cons_of_mem _ (List.mem_cons_of_mem _ (List.mem_cons_of_mem _ (List.mem_cons_of_mem _ (List.mem_cons_of_mem _ (List.mem_cons_of_mem _ (List.mem_cons_of_mem _ (List.mem_cons_of_mem _ (List.mem_cons_of_mem _ (List.mem_cons_of_mem _ (List.mem_cons_of_mem _ (List.mem_cons_of_mem _ (List.mem_cons_of_mem _ (List.mem_cons_self))))))))))))))))) rfl
theorem c_gT20 {w : Cond} (h : w ∈ gT20) : w ∈ tables_1 := t_tables_1_2 (List.mem_append_right _ (List.mem_append_right _ (List.mem_append_right _ (List.mem_append_right _ (List.mem_append_right _ (List.mem_append_left _ h))))))
theorem mW320 : Cond.instanceMethod yX8_put ∈ gWs := gWs_tab (c_gT20 (List.mem_cons_self)) rfl
theorem mW321 : Cond.selects RX8 yX8_put yX8_put ∈ gWs := gWs_tab (c_gT20 (List.mem_cons_of_mem _ (List.mem_cons_self))) rfl
theorem mW322 : Cond.code yX8_put cX8_put 6 (some .int) ∈ gWs := gWs_tab (c_gT20 (List.mem_cons_of_mem _ (List.mem_cons_of_mem _ (List.mem_cons_self)))) rfl
theorem mW323 : Cond.methodLink RL 47 yX8_add ∈ gWs := gWs_tab (c_gT20 (List.mem_cons_of_mem _ (List.mem_cons_of_mem _ (List.mem_cons_of_mem _ (List.mem_cons_self))))) rfl
theorem mW324 : Cond.instanceMethod yX8_add ∈ gWs := gWs_tab (c_gT20 (List.mem_cons_of_mem _ (List.mem_cons_of_mem _ (List.mem_cons_of_mem _ (List.mem_cons_of_mem _ (List.mem_cons_self)))))) rfl
theorem mW325 : Cond.selects RX8 yX8_add yX8_add ∈ gWs := gWs_tab (c_gT20 (List.mem_cons_of_mem _ (List.mem_cons_of_mem _ (List.mem_cons_of_mem _ (List.mem_cons_of_mem _ (List.mem_cons_of_mem _ (List.mem_cons_self))))))) rfl
theorem mW326 : Cond.code yX8_add cX8_add 7 (some .int) ∈ gWs := gWs_tab (c_gT20 (List.mem_cons_of_mem _ (List.mem_cons_of_mem _ (List.mem_cons_of_mem _ (List.mem_cons_of_mem _ (List.mem_cons_of_mem _ (List.mem_cons_of_mem _ (List.mem_cons_self)))))))) rfl
theorem mW327 : Cond.methodLink RL 52 yX8_is ∈ gWs := gWs_tab (c_gT20 (List.mem_cons_of_mem _ (List.mem_cons_of_mem _ (List.mem_cons_of_mem _ (List.mem_cons_of_mem _ (List.mem_cons_of_mem _ (List.mem_cons_of_mem _ (List.mem_cons_of_mem _ (List.mem_cons_self))))))))) rfl
theorem mW328 : Cond.instanceMethod yX8_is ∈ gWs := gWs_tab (c_gT20 (List.mem_cons_of_mem _ (List.mem_cons_of_mem _ (List.mem_cons_of_mem _ (List.mem_cons_of_mem _ (List.mem_cons_of_mem _ (List.mem_cons_of_mem _ (List.mem_cons_of_mem _ (List.mem_cons_of_mem _ (List.mem_cons_self)))))))))) rfl
theorem mW329 : Cond.selects RX8 yX8_is yX8_is ∈ gWs := gWs_tab (c_gT20 (List.mem_cons_of_mem _ (List.mem_cons_of_mem _ (List.mem_cons_of_mem _ (List.mem_cons_of_mem _ (List.mem_cons_of_mem _ (List.mem_cons_of_mem _ (List.mem_cons_of_mem _ (List.mem_cons_of_mem _ (List.mem_cons_of_mem _ (List.mem_cons_self))))))))))) rfl
theorem mW330 : Cond.code yX8_is cX8_is 6 (some .int) ∈ gWs := gWs_tab (c_gT20 (List.mem_cons_of_mem _ (List.mem_cons_of_mem _ (List.mem_cons_of_mem _ (List.mem_cons_of_mem _ (List.mem_cons_of_mem _ (List.mem_cons_of_mem _ (List.mem_cons_of_mem _ (List.mem_cons_of_mem _ (List.mem_cons_of_mem _ (List.mem_cons_of_mem _ (List.mem_cons_self)))))))))))) rfl
theorem mW331 : Cond.methodLink RL 56 yX8_about ∈ gWs := gWs_tab (c_gT20 (List.mem_cons_of_mem _ (List.mem_cons_of_mem _ (List.mem_cons_of_mem _ (List.mem_cons_of_mem _ (List.mem_cons_of_mem _ (List.mem_cons_of_mem _ (List.mem_cons_of_mem _ (List.mem_cons_of_mem _ (List.mem_cons_of_mem _ (List.mem_cons_of_mem _ (List.mem_cons_of_mem _ (List.mem_cons_self))))))))))))) rfl
theorem mW332 : Cond.instanceMethod yX8_about ∈ gWs := gWs_tab (c_gT20 (List.mem_cons_of_mem _ (List.mem_cons_of_mem _ (List.mem_cons_of_mem _ (List.mem_cons_of_mem _ (List.mem_cons_of_mem _ (List.mem_cons_of_mem _ (List.mem_cons_of_mem _ (List.mem_cons_of_mem _ (List.mem_cons_of_mem _ (List.mem_cons_of_mem _ (List.mem_cons_of_mem _ (List.mem_cons_of_mem _ (List.mem_cons_self)))))))))))))) rfl
theorem mW333 : Cond.selects RX8 yX8_about yX8_about ∈ gWs := gWs_tab (c_gT20 (List.mem_cons_of_mem _ (List.mem_cons_of_mem _ (List.mem_cons_of_mem _ (List.mem_cons_of_mem _ (List.mem_cons_of_mem _ (List.mem_cons_of_mem _ (List.mem_cons_of_mem _ (List.mem_cons_of_mem _ (List.mem_cons_of_mem _ (List.mem_cons_of_mem _ (List.mem_cons_of_mem _ (List.mem_cons_of_mem _ (List.mem_cons_of_mem _ (List.mem_cons_self))))))))))))))) rfl
theorem mW334 : Cond.code yX8_about cX8_about 4 (some .int) ∈ gWs := gWs_tab (c_gT20 (List.mem_cons_of_mem _ (List.mem_cons_of_mem _ (List.mem_cons_of_mem _ (List.mem_cons_of_mem _ (List.mem_cons_of_mem _ (List.mem_cons_of_mem _ (List.mem_cons_of_mem _ (List.mem_cons_of_mem _ (List.mem_cons_of_mem _ (List.mem_cons_of_mem _ (List.mem_cons_of_mem _ (List.mem_cons_of_mem _ (List.mem_cons_of_mem _ (List.mem_cons_of_mem _ (List.mem_cons_self)))))))))))))))) rfl
theorem mW335 : Cond.methodLink RX8 129 yX7_total ∈ gWs := gWs_tab (c_gT20 (List.mem_cons_of_mem _ (List.mem_cons_of_mem _ (List.mem_cons_of_mem _ (List.mem_cons_of_mem _ (List.mem_cons_of_mem _ (List.mem_cons_of_mem _ (List.mem_cons_of_mem _ (List.mem_cons_of_mem _ (List.mem_cons_of_mem _ (List.mem_cons_of_mem _ (List.mem_cons_of_mem _ (List.mem_cons_of_mem _ (List.mem_cons_of_mem _ (List.mem_cons_of_mem _ (List.mem_cons_of_mem _ (List.mem_cons_self))))))))))))))))) rfl
theorem c_gT21 {w : Cond} (h : w ∈ gT21) : w ∈ tables_1 := t_tables_1_2 (List.mem_append_right _ (List.mem_append_right _ (List.mem_append_right _ (List.mem_append_right _ (List.mem_append_right _ (List.mem_append_right _ (List.mem_append_left _ h)))))))
theorem mW336 : Cond.instanceMethod yX7_total ∈ gWs := gWs_tab (c_gT21 (List.mem_cons_self)) rfl
theorem mW337 : Cond.selects RX7 yX7_total yX7_total ∈ gWs := gWs_tab (c_gT21 (List.mem_cons_of_mem _ (List.mem_cons_self))) rfl
theorem mW338 : Cond.code yX7_total cX7_total 1 (some .int) ∈ gWs := gWs_tab (c_gT21 (List.mem_cons_of_mem _ (List.mem_cons_of_mem _ (List.mem_cons_self)))) rfl
theorem mW339 : Cond.methodLink RX8 136 yX7_isEven ∈ gWs := gWs_tab (c_gT21 (List.mem_cons_of_mem _ (List.mem_cons_of_mem _ (List.mem_cons_of_mem _ (List.mem_cons_self))))) rfl
theorem mW340 : Cond.instanceMethod yX7_isEven ∈ gWs := gWs_tab (c_gT21 (List.mem_cons_of_mem _ (List.mem_cons_of_mem _ (List.mem_cons_of_mem _ (List.mem_cons_of_mem _ (List.mem_cons_self)))))) rfl
theorem mW341 : Cond.selects RX7 yX7_isEven yX7_isEven ∈ gWs := gWs_tab (c_gT21 (List.mem_cons_of_mem _ (List.mem_cons_of_mem _ (List.mem_cons_of_mem _ (List.mem_cons_of_mem _ (List.mem_cons_of_mem _ (List.mem_cons_self))))))) rfl
theorem mW342 : Cond.code yX7_isEven cX7_isEven 2 (some .boolean) ∈ gWs := gWs_tab (c_gT21 (List.mem_cons_of_mem _ (List.mem_cons_of_mem _ (List.mem_cons_of_mem _ (List.mem_cons_of_mem _ (List.mem_cons_of_mem _ (List.mem_cons_of_mem _ (List.mem_cons_self)))))))) rfl
theorem mW343 : Cond.methodLink RX7 38 yX7_growth ∈ gWs := gWs_tab (c_gT21 (List.mem_cons_of_mem _ (List.mem_cons_of_mem _ (List.mem_cons_of_mem _ (List.mem_cons_of_mem _ (List.mem_cons_of_mem _ (List.mem_cons_of_mem _ (List.mem_cons_of_mem _ (List.mem_cons_self))))))))) rfl
theorem mW344 : Cond.instanceMethod yX7_growth ∈ gWs := gWs_tab (c_gT21 (List.mem_cons_of_mem _ (List.mem_cons_of_mem _ (List.mem_cons_of_mem _ (List.mem_cons_of_mem _ (List.mem_cons_of_mem _ (List.mem_cons_of_mem _ (List.mem_cons_of_mem _ (List.mem_cons_of_mem _ (List.mem_cons_self)))))))))) rfl
theorem mW345 : Cond.selects RX7 yX7_growth yX7_growth ∈ gWs := gWs_tab (c_gT21 (List.mem_cons_of_mem _ (List.mem_cons_of_mem _ (List.mem_cons_of_mem _ (List.mem_cons_of_mem _ (List.mem_cons_of_mem _ (List.mem_cons_of_mem _ (List.mem_cons_of_mem _ (List.mem_cons_of_mem _ (List.mem_cons_of_mem _ (List.mem_cons_self))))))))))) rfl
theorem mW346 : Cond.code yX7_growth cX7_growth 4 (some .int) ∈ gWs := gWs_tab (c_gT21 (List.mem_cons_of_mem _ (List.mem_cons_of_mem _ (List.mem_cons_of_mem _ (List.mem_cons_of_mem _ (List.mem_cons_of_mem _ (List.mem_cons_of_mem _ (List.mem_cons_of_mem _ (List.mem_cons_of_mem _ (List.mem_cons_of_mem _ (List.mem_cons_of_mem _ (List.mem_cons_self)))))))))))) rfl
theorem mW347 : Cond.methodLink RX8 140 yX7_growth ∈ gWs := gWs_tab (c_gT21 (List.mem_cons_of_mem _ (List.mem_cons_of_mem _ (List.mem_cons_of_mem _ (List.mem_cons_of_mem _ (List.mem_cons_of_mem _ (List.mem_cons_of_mem _ (List.mem_cons_of_mem _ (List.mem_cons_of_mem _ (List.mem_cons_of_mem _ (List.mem_cons_of_mem _ (List.mem_cons_of_mem _ (List.mem_cons_self))))))))))))) rfl
theorem mW348 : Cond.methodLink RX8 144 yX7_isLike ∈ gWs := gWs_tab (c_gT21 (List.mem_cons_of_mem _ (List.mem_cons_of_mem _ (List.mem_cons_of_mem _ (List.mem_cons_of_mem _ (List.mem_cons_of_mem _ (List.mem_cons_of_mem _ (List.mem_cons_of_mem _ (List.mem_cons_of_mem _ (List.mem_cons_of_mem _ (List.mem_cons_of_mem _ (List.mem_cons_of_mem _ (List.mem_cons_of_mem _ (List.mem_cons_self)))))))))))))) rfl
theorem mW349 : Cond.instanceMethod yX7_isLike ∈ gWs := gWs_tab (c_gT21 (List.mem_cons_of_mem _ (List.mem_cons_of_mem _ (List.mem_cons_of_mem _ (List.mem_cons_of_mem _ (List.mem_cons_of_mem _ (List.mem_cons_of_mem _ (List.mem_cons_of_mem _ (List.mem_cons_of_mem _ (List.mem_cons_of_mem _ (List.mem_cons_of_mem _ (List.mem_cons_of_mem _ (List.mem_cons_of_mem _ (List.mem_cons_of_mem _ (List.mem_cons_self))))))))))))))) rfl
theorem mW350 : Cond.selects RX7 yX7_isLike yX7_isLike ∈ gWs := gWs_tab (c_gT21 (List.mem_cons_of_mem _ (List.mem_cons_of_mem _ (List.mem_cons_of_mem _ (List.mem_cons_of_mem _ (List.mem_cons_of_mem _ (List.mem_cons_of_mem _ (List.mem_cons_of_mem _ (List.mem_cons_of_mem _ (List.mem_cons_of_mem _ (List.mem_cons_of_mem _ (List.mem_cons_of_mem _ (List.mem_cons_of_mem _ (List.mem_cons_of_mem _ (List.mem_cons_of_mem _ (List.mem_cons_self)))))))))))))))) rfl
theorem mW351 : Cond.code yX7_isLike cX7_isLike 4 (some .boolean) ∈ gWs := gWs_tab (c_gT21 (List.mem_cons_of_mem _ (List.mem_cons_of_mem _ (List.mem_cons_of_mem _ (List.mem_cons_of_mem _ (List.mem_cons_of_mem _ (List.mem_cons_of_mem _ (List.mem_cons_of_mem _ (List.mem_cons_of_mem _ (List.mem_cons_of_mem _ (List.mem_cons_of_mem _ (List.mem_cons_of_mem _ (List.mem_cons_of_mem _ (List.mem_cons_of_mem _ (List.mem_cons_of_mem _ (List.mem_cons_of_mem _ (List.mem_cons_self))))))))))))))))) rfl
theorem c_gT22 {w : Cond} (h : w ∈ gT22) : w ∈ tables_1 := t_tables_1_2 (List.mem_append_right _ (List.mem_append_right _ (List.mem_append_right _ (List.mem_append_right _ (List.mem_append_right _ (List.mem_append_right _ (List.mem_append_right _ (List.mem_append_left _ h))))))))
theorem mW352 : Cond.methodLink RL 61 yX8_added ∈ gWs := gWs_tab (c_gT22 (List.mem_cons_self)) rfl
theorem mW353 : Cond.instanceMethod yX8_added ∈ gWs := gWs_tab (c_gT22 (List.mem_cons_of_mem _ (List.mem_cons_self))) rfl
theorem mW354 : Cond.selects RX8 yX8_added yX8_added ∈ gWs := gWs_tab (c_gT22 (List.mem_cons_of_mem _ (List.mem_cons_of_mem _ (List.mem_cons_self)))) rfl
theorem mW355 : Cond.code yX8_added cX8_added 5 (some .int) ∈ gWs := gWs_tab (c_gT22 (List.mem_cons_of_mem _ (List.mem_cons_of_mem _ (List.mem_cons_of_mem _ (List.mem_cons_self))))) rfl
theorem mW356 : Cond.methodLink RL 65 yX8_draw ∈ gWs := gWs_tab (c_gT22 (List.mem_cons_of_mem _ (List.mem_cons_of_mem _ (List.mem_cons_of_mem _ (List.mem_cons_of_mem _ (List.mem_cons_self)))))) rfl
theorem mW357 : Cond.instanceMethod yX8_draw ∈ gWs := gWs_tab (c_gT22 (List.mem_cons_of_mem _ (List.mem_cons_of_mem _ (List.mem_cons_of_mem _ (List.mem_cons_of_mem _ (List.mem_cons_of_mem _ (List.mem_cons_self))))))) rfl
theorem mW358 : Cond.selects RX8 yX8_draw yX8_draw ∈ gWs := gWs_tab (c_gT22 (List.mem_cons_of_mem _ (List.mem_cons_of_mem _ (List.mem_cons_of_mem _ (List.mem_cons_of_mem _ (List.mem_cons_of_mem _ (List.mem_cons_of_mem _ (List.mem_cons_self)))))))) rfl
theorem mW359 : Cond.code yX8_draw cX8_draw 4 (some .int) ∈ gWs := gWs_tab (c_gT22 (List.mem_cons_of_mem _ (List.mem_cons_of_mem _ (List.mem_cons_of_mem _ (List.mem_cons_of_mem _ (List.mem_cons_of_mem _ (List.mem_cons_of_mem _ (List.mem_cons_of_mem _ (List.mem_cons_self))))))))) rfl
theorem mW360 : Cond.methodLink RX8 147 yX7_lets ∈ gWs := gWs_tab (c_gT22 (List.mem_cons_of_mem _ (List.mem_cons_of_mem _ (List.mem_cons_of_mem _ (List.mem_cons_of_mem _ (List.mem_cons_of_mem _ (List.mem_cons_of_mem _ (List.mem_cons_of_mem _ (List.mem_cons_of_mem _ (List.mem_cons_self)))))))))) rfl
theorem mW361 : Cond.instanceMethod yX7_lets ∈ gWs := gWs_tab (c_gT22 (List.mem_cons_of_mem _ (List.mem_cons_of_mem _ (List.mem_cons_of_mem _ (List.mem_cons_of_mem _ (List.mem_cons_of_mem _ (List.mem_cons_of_mem _ (List.mem_cons_of_mem _ (List.mem_cons_of_mem _ (List.mem_cons_of_mem _ (List.mem_cons_self))))))))))) rfl
theorem mW362 : Cond.selects RX7 yX7_lets yX7_lets ∈ gWs := gWs_tab (c_gT22 (List.mem_cons_of_mem _ (List.mem_cons_of_mem _ (List.mem_cons_of_mem _ (List.mem_cons_of_mem _ (List.mem_cons_of_mem _ (List.mem_cons_of_mem _ (List.mem_cons_of_mem _ (List.mem_cons_of_mem _ (List.mem_cons_of_mem _ (List.mem_cons_of_mem _ (List.mem_cons_self)))))))))))) rfl
theorem mW363 : Cond.code yX7_lets cX7_lets 5 (some .boolean) ∈ gWs := gWs_tab (c_gT22 (List.mem_cons_of_mem _ (List.mem_cons_of_mem _ (List.mem_cons_of_mem _ (List.mem_cons_of_mem _ (List.mem_cons_of_mem _ (List.mem_cons_of_mem _ (List.mem_cons_of_mem _ (List.mem_cons_of_mem _ (List.mem_cons_of_mem _ (List.mem_cons_of_mem _ (List.mem_cons_of_mem _ (List.mem_cons_self))))))))))))) rfl
theorem mW364 : Cond.methodLink RX8 151 yX7_doDraw ∈ gWs := gWs_tab (c_gT22 (List.mem_cons_of_mem _ (List.mem_cons_of_mem _ (List.mem_cons_of_mem _ (List.mem_cons_of_mem _ (List.mem_cons_of_mem _ (List.mem_cons_of_mem _ (List.mem_cons_of_mem _ (List.mem_cons_of_mem _ (List.mem_cons_of_mem _ (List.mem_cons_of_mem _ (List.mem_cons_of_mem _ (List.mem_cons_of_mem _ (List.mem_cons_self)))))))))))))) rfl
theorem mW365 : Cond.instanceMethod yX7_doDraw ∈ gWs := gWs_tab (c_gT22 (List.mem_cons_of_mem _ (List.mem_cons_of_mem _ (List.mem_cons_of_mem _ (List.mem_cons_of_mem _ (List.mem_cons_of_mem _ (List.mem_cons_of_mem _ (List.mem_cons_of_mem _ (List.mem_cons_of_mem _ (List.mem_cons_of_mem _ (List.mem_cons_of_mem _ (List.mem_cons_of_mem _ (List.mem_cons_of_mem _ (List.mem_cons_of_mem _ (List.mem_cons_self))))))))))))))) rfl
theorem mW366 : Cond.selects RX7 yX7_doDraw yX7_doDraw ∈ gWs := gWs_tab (c_gT22 (List.mem_cons_of_mem _ (List.mem_cons_of_mem _ (List.mem_cons_of_mem _ (List.mem_cons_of_mem _ (List.mem_cons_of_mem _ (List.mem_cons_of_mem _ (List.mem_cons_of_mem _ (List.mem_cons_of_mem _ (List.mem_cons_of_mem _ (List.mem_cons_of_mem _ (List.mem_cons_of_mem _ (List.mem_cons_of_mem _ (List.mem_cons_of_mem _ (List.mem_cons_of_mem _ (List.mem_cons_self)))))))))))))))) rfl
theorem mW367 : Cond.code yX7_doDraw cX7_doDraw 2 none ∈ gWs := gWs_tab (c_gT22 (List.mem_cons_of_mem _ (List.mem_cons_of_mem _ (List.mem_cons_of_mem _ (List.mem_cons_of_mem _ (List.mem_cons_of_mem _ (List.mem_cons_of_mem _ (List.mem_cons_of_mem _ (List.mem_cons_of_mem _ (List.mem_cons_of_mem _ (List.mem_cons_of_mem _ (List.mem_cons_of_mem _ (List.mem_cons_of_mem _ (List.mem_cons_of_mem _ (List.mem_cons_of_mem _ (List.mem_cons_of_mem _ (List.mem_cons_self))))))))))))))))) rfl
theorem c_gT23 {w : Cond} (h : w ∈ gT23) : w ∈ tables_1 := t_tables_1_2 (List.mem_append_right _ (List.mem_append_right _ (List.mem_append_right _ (List.mem_append_right _ (List.mem_append_right _ (List.mem_append_right _ (List.mem_append_right _ (List.mem_append_right _ (List.mem_append_left _ h)))))))))
theorem mW368 : Cond.methodLink RX7 42 yX7_grow ∈ gWs := gWs_tab (c_gT23 (List.mem_cons_self)) rfl
theorem mW369 : Cond.instanceMethod yX7_grow ∈ gWs := gWs_tab (c_gT23 (List.mem_cons_of_mem _ (List.mem_cons_self))) rfl
theorem mW370 : Cond.selects RX7 yX7_grow yX7_grow ∈ gWs := gWs_tab (c_gT23 (List.mem_cons_of_mem _ (List.mem_cons_of_mem _ (List.mem_cons_self)))) rfl
theorem mW371 : Cond.code yX7_grow cX7_grow 4 none ∈ gWs := gWs_tab (c_gT23 (List.mem_cons_of_mem _ (List.mem_cons_of_mem _ (List.mem_cons_of_mem _ (List.mem_cons_self))))) rfl
theorem mW372 : Cond.methodLink RL 69 yX8_seed ∈ gWs := gWs_tab (c_gT23 (List.mem_cons_of_mem _ (List.mem_cons_of_mem _ (List.mem_cons_of_mem _ (List.mem_cons_of_mem _ (List.mem_cons_self)))))) rfl
theorem mW373 : Cond.instanceMethod yX8_seed ∈ gWs := gWs_tab (c_gT23 (List.mem_cons_of_mem _ (List.mem_cons_of_mem _ (List.mem_cons_of_mem _ (List.mem_cons_of_mem _ (List.mem_cons_of_mem _ (List.mem_cons_self))))))) rfl
theorem mW374 : Cond.selects RX8 yX8_seed yX8_seed ∈ gWs := gWs_tab (c_gT23 (List.mem_cons_of_mem _ (List.mem_cons_of_mem _ (List.mem_cons_of_mem _ (List.mem_cons_of_mem _ (List.mem_cons_of_mem _ (List.mem_cons_of_mem _ (List.mem_cons_self)))))))) rfl
theorem mW375 : Cond.code yX8_seed cX8_seed 2 (some .int) ∈ gWs := gWs_tab (c_gT23 (List.mem_cons_of_mem _ (List.mem_cons_of_mem _ (List.mem_cons_of_mem _ (List.mem_cons_of_mem _ (List.mem_cons_of_mem _ (List.mem_cons_of_mem _ (List.mem_cons_of_mem _ (List.mem_cons_self))))))))) rfl
theorem mW376 : Cond.constant RX8 155 (2147483646) ∈ gWs := gWs_tab (c_gT23 (List.mem_cons_of_mem _ (List.mem_cons_of_mem _ (List.mem_cons_of_mem _ (List.mem_cons_of_mem _ (List.mem_cons_of_mem _ (List.mem_cons_of_mem _ (List.mem_cons_of_mem _ (List.mem_cons_of_mem _ (List.mem_cons_self)))))))))) rfl
theorem mW377 : Cond.methodLink RL 73 yX8_drawn ∈ gWs := gWs_tab (c_gT23 (List.mem_cons_of_mem _ (List.mem_cons_of_mem _ (List.mem_cons_of_mem _ (List.mem_cons_of_mem _ (List.mem_cons_of_mem _ (List.mem_cons_of_mem _ (List.mem_cons_of_mem _ (List.mem_cons_of_mem _ (List.mem_cons_of_mem _ (List.mem_cons_self))))))))))) rfl
theorem mW378 : Cond.instanceMethod yX8_drawn ∈ gWs := gWs_tab (c_gT23 (List.mem_cons_of_mem _ (List.mem_cons_of_mem _ (List.mem_cons_of_mem _ (List.mem_cons_of_mem _ (List.mem_cons_of_mem _ (List.mem_cons_of_mem _ (List.mem_cons_of_mem _ (List.mem_cons_of_mem _ (List.mem_cons_of_mem _ (List.mem_cons_of_mem _ (List.mem_cons_self)))))))))))) rfl
theorem mW379 : Cond.selects RX8 yX8_drawn yX8_drawn ∈ gWs := gWs_tab (c_gT23 (List.mem_cons_of_mem _ (List.mem_cons_of_mem _ (List.mem_cons_of_mem _ (List.mem_cons_of_mem _ (List.mem_cons_of_mem _ (List.mem_cons_of_mem _ (List.mem_cons_of_mem _ (List.mem_cons_of_mem _ (List.mem_cons_of_mem _ (List.mem_cons_of_mem _ (List.mem_cons_of_mem _ (List.mem_cons_self))))))))))))) rfl
theorem mW380 : Cond.code yX8_drawn cX8_drawn 4 (some .int) ∈ gWs := gWs_tab (c_gT23 (List.mem_cons_of_mem _ (List.mem_cons_of_mem _ (List.mem_cons_of_mem _ (List.mem_cons_of_mem _ (List.mem_cons_of_mem _ (List.mem_cons_of_mem _ (List.mem_cons_of_mem _ (List.mem_cons_of_mem _ (List.mem_cons_of_mem _ (List.mem_cons_of_mem _ (List.mem_cons_of_mem _ (List.mem_cons_of_mem _ (List.mem_cons_self)))))))))))))) rfl
theorem mW381 : Cond.methodLink RX8 156 yX8_findPath ∈ gWs := gWs_tab (c_gT23 (List.mem_cons_of_mem _ (List.mem_cons_of_mem _ (List.mem_cons_of_mem _ (List.mem_cons_of_mem _ (List.mem_cons_of_mem _ (List.mem_cons_of_mem _ (List.mem_cons_of_mem _ (List.mem_cons_of_mem _ (List.mem_cons_of_mem _ (List.mem_cons_of_mem _ (List.mem_cons_of_mem _ (List.mem_cons_of_mem _ (List.mem_cons_of_mem _ (List.mem_cons_self))))))))))))))) rfl
theorem mW383 : Cond.instanceMethod yX8_findPath ∈ gWs := gWs_tab (c_gT23 (List.mem_cons_of_mem _ (List.mem_cons_of_mem _ (List.mem_cons_of_mem _ (List.mem_cons_of_mem _ (List.mem_cons_of_mem _ (List.mem_cons_of_mem _ (List.mem_cons_of_mem _ (List.mem_cons_of_mem _ (List.mem_cons_of_mem _ (List.mem_cons_of_mem _ (List.mem_cons_of_mem _ (List.mem_cons_of_mem _ (List.mem_cons_of_mem _ (List.mem_cons_of_mem _ (List.mem_cons_of_mem _ (List.mem_cons_self))))))))))))))))) rfl
theorem c_gT24 {w : Cond} (h : w ∈ gT24) : w ∈ tables_1 := t_tables_1_2 (List.mem_append_right _ (List.mem_append_right _ (List.mem_append_right _ (List.mem_append_right _ (List.mem_append_right _ (List.mem_append_right _ (List.mem_append_right _ (List.mem_append_right _ (List.mem_append_right _ (List.mem_append_left _ h))))))))))
theorem mW384 : Cond.code yX8_findPath cX8_findPath 6 (some .boolean) ∈ gWs := gWs_tab (c_gT24 (List.mem_cons_self)) rfl
theorem mW385 : Cond.constantLong RX8 263 (48271) ∈ gWs := gWs_tab (c_gT24 (List.mem_cons_of_mem _ (List.mem_cons_self))) rfl
theorem mW386 : Cond.constantLong RX8 265 (11) ∈ gWs := gWs_tab (c_gT24 (List.mem_cons_of_mem _ (List.mem_cons_of_mem _ (List.mem_cons_self)))) rfl
theorem mW387 : Cond.constantLong RX8 267 (2147483647) ∈ gWs := gWs_tab (c_gT24 (List.mem_cons_of_mem _ (List.mem_cons_of_mem _ (List.mem_cons_of_mem _ (List.mem_cons_self))))) rfl
theorem mW388 : Cond.constantLong RX8 269 (16) ∈ gWs := gWs_tab (c_gT24 (List.mem_cons_of_mem _ (List.mem_cons_of_mem _ (List.mem_cons_of_mem _ (List.mem_cons_of_mem _ (List.mem_cons_self)))))) rfl
theorem mW389 : Cond.methodLink RX8 271 yX7_colourOf ∈ gWs := gWs_tab (c_gT24 (List.mem_cons_of_mem _ (List.mem_cons_of_mem _ (List.mem_cons_of_mem _ (List.mem_cons_of_mem _ (List.mem_cons_of_mem _ (List.mem_cons_self))))))) rfl
theorem mW390 : Cond.instanceMethod yX7_colourOf ∈ gWs := gWs_tab (c_gT24 (List.mem_cons_of_mem _ (List.mem_cons_of_mem _ (List.mem_cons_of_mem _ (List.mem_cons_of_mem _ (List.mem_cons_of_mem _ (List.mem_cons_of_mem _ (List.mem_cons_self)))))))) rfl
theorem mW391 : Cond.selects RX7 yX7_colourOf yX7_colourOf ∈ gWs := gWs_tab (c_gT24 (List.mem_cons_of_mem _ (List.mem_cons_of_mem _ (List.mem_cons_of_mem _ (List.mem_cons_of_mem _ (List.mem_cons_of_mem _ (List.mem_cons_of_mem _ (List.mem_cons_of_mem _ (List.mem_cons_self))))))))) rfl
theorem mW392 : Cond.code yX7_colourOf cX7_colourOf 4 (some .int) ∈ gWs := gWs_tab (c_gT24 (List.mem_cons_of_mem _ (List.mem_cons_of_mem _ (List.mem_cons_of_mem _ (List.mem_cons_of_mem _ (List.mem_cons_of_mem _ (List.mem_cons_of_mem _ (List.mem_cons_of_mem _ (List.mem_cons_of_mem _ (List.mem_cons_self)))))))))) rfl
theorem mW393 : Cond.methodLink RX8 159 yX8_goPath ∈ gWs := gWs_tab (c_gT24 (List.mem_cons_of_mem _ (List.mem_cons_of_mem _ (List.mem_cons_of_mem _ (List.mem_cons_of_mem _ (List.mem_cons_of_mem _ (List.mem_cons_of_mem _ (List.mem_cons_of_mem _ (List.mem_cons_of_mem _ (List.mem_cons_of_mem _ (List.mem_cons_self))))))))))) rfl
theorem mW395 : Cond.instanceMethod yX8_goPath ∈ gWs := gWs_tab (c_gT24 (List.mem_cons_of_mem _ (List.mem_cons_of_mem _ (List.mem_cons_of_mem _ (List.mem_cons_of_mem _ (List.mem_cons_of_mem _ (List.mem_cons_of_mem _ (List.mem_cons_of_mem _ (List.mem_cons_of_mem _ (List.mem_cons_of_mem _ (List.mem_cons_of_mem _ (List.mem_cons_of_mem _ (List.mem_cons_self))))))))))))) rfl
theorem mW396 : Cond.code yX8_goPath cX8_goPath 2 none ∈ gWs := gWs_tab (c_gT24 (List.mem_cons_of_mem _ (List.mem_cons_of_mem _ (List.mem_cons_of_mem _ (List.mem_cons_of_mem _ (List.mem_cons_of_mem _ (List.mem_cons_of_mem _ (List.mem_cons_of_mem _ (List.mem_cons_of_mem _ (List.mem_cons_of_mem _ (List.mem_cons_of_mem _ (List.mem_cons_of_mem _ (List.mem_cons_of_mem _ (List.mem_cons_self)))))))))))))) rfl
theorem mW397 : Cond.methodLink RL 77 yX8_shake ∈ gWs := gWs_tab (c_gT24 (List.mem_cons_of_mem _ (List.mem_cons_of_mem _ (List.mem_cons_of_mem _ (List.mem_cons_of_mem _ (List.mem_cons_of_mem _ (List.mem_cons_of_mem _ (List.mem_cons_of_mem _ (List.mem_cons_of_mem _ (List.mem_cons_of_mem _ (List.mem_cons_of_mem _ (List.mem_cons_of_mem _ (List.mem_cons_of_mem _ (List.mem_cons_of_mem _ (List.mem_cons_self))))))))))))))) rfl
theorem mW398 : Cond.instanceMethod yX8_shake ∈ gWs := gWs_tab (c_gT24 (List.mem_cons_of_mem _ (List.mem_cons_of_mem _ (List.mem_cons_of_mem _ (List.mem_cons_of_mem _ (List.mem_cons_of_mem _ (List.mem_cons_of_mem _ (List.mem_cons_of_mem _ (List.mem_cons_of_mem _ (List.mem_cons_of_mem _ (List.mem_cons_of_mem _ (List.mem_cons_of_mem _ (List.mem_cons_of_mem _ (List.mem_cons_of_mem _ (List.mem_cons_of_mem _ (List.mem_cons_self)))))))))))))))) rfl
theorem mW399 : Cond.selects RX8 yX8_shake yX8_shake ∈ gWs := gWs_tab (c_gT24 (List.mem_cons_of_mem _ (List.mem_cons_of_mem _ (List.mem_cons_of_mem _ (List.mem_cons_of_mem _ (List.mem_cons_of_mem _ (List.mem_cons_of_mem _ (List.mem_cons_of_mem _ (List.mem_cons_of_mem _ (List.mem_cons_of_mem _ (List.mem_cons_of_mem _ (List.mem_cons_of_mem _ (List.mem_cons_of_mem _ (List.mem_cons_of_mem _ (List.mem_cons_of_mem _ (List.mem_cons_of_mem _ (List.mem_cons_self))))))))))))))))) rfl
theorem c_gT25 {w : Cond} (h : w ∈ gT25) : w ∈ tables_1 := t_tables_1_2 (List.mem_append_right _ (List.mem_append_right _ (List.mem_append_right _ (List.mem_append_right _ (List.mem_append_right _ (List.mem_append_right _ (List.mem_append_right _ (List.mem_append_right _ (List.mem_append_right _ (List.mem_append_right _ (List.mem_append_left _ h)))))))))))
theorem mW400 : Cond.code yX8_shake cX8_shake 4 (some .int) ∈ gWs := gWs_tab (c_gT25 (List.mem_cons_self)) rfl
theorem mW401 : Cond.methodLink RL 81 yX8_undo ∈ gWs := gWs_tab (c_gT25 (List.mem_cons_of_mem _ (List.mem_cons_self))) rfl
theorem mW402 : Cond.instanceMethod yX8_undo ∈ gWs := gWs_tab (c_gT25 (List.mem_cons_of_mem _ (List.mem_cons_of_mem _ (List.mem_cons_self)))) rfl
theorem mW403 : Cond.selects RX8 yX8_undo yX8_undo ∈ gWs := gWs_tab (c_gT25 (List.mem_cons_of_mem _ (List.mem_cons_of_mem _ (List.mem_cons_of_mem _ (List.mem_cons_self))))) rfl
theorem mW404 : Cond.code yX8_undo cX8_undo 3 (some .int) ∈ gWs := gWs_tab (c_gT25 (List.mem_cons_of_mem _ (List.mem_cons_of_mem _ (List.mem_cons_of_mem _ (List.mem_cons_of_mem _ (List.mem_cons_self)))))) rfl
theorem mW405 : Cond.methodLink RX8 167 yX2_takeLatest ∈ gWs := gWs_tab (c_gT25 (List.mem_cons_of_mem _ (List.mem_cons_of_mem _ (List.mem_cons_of_mem _ (List.mem_cons_of_mem _ (List.mem_cons_of_mem _ (List.mem_cons_self))))))) rfl
theorem mW406 : Cond.instanceMethod yX2_takeLatest ∈ gWs := gWs_tab (c_gT25 (List.mem_cons_of_mem _ (List.mem_cons_of_mem _ (List.mem_cons_of_mem _ (List.mem_cons_of_mem _ (List.mem_cons_of_mem _ (List.mem_cons_of_mem _ (List.mem_cons_self)))))))) rfl
theorem mW407 : Cond.selects RX2 yX2_takeLatest yX2_takeLatest ∈ gWs := gWs_tab (c_gT25 (List.mem_cons_of_mem _ (List.mem_cons_of_mem _ (List.mem_cons_of_mem _ (List.mem_cons_of_mem _ (List.mem_cons_of_mem _ (List.mem_cons_of_mem _ (List.mem_cons_of_mem _ (List.mem_cons_self))))))))) rfl
theorem mW408 : Cond.code yX2_takeLatest cX2_takeLatest 1 (some (.array .int)) ∈ gWs := gWs_tab (c_gT25 (List.mem_cons_of_mem _ (List.mem_cons_of_mem _ (List.mem_cons_of_mem _ (List.mem_cons_of_mem _ (List.mem_cons_of_mem _ (List.mem_cons_of_mem _ (List.mem_cons_of_mem _ (List.mem_cons_of_mem _ (List.mem_cons_self)))))))))) rfl
theorem mW409 : Cond.methodLink RX8 171 yX7_comeFrom ∈ gWs := gWs_tab (c_gT25 (List.mem_cons_of_mem _ (List.mem_cons_of_mem _ (List.mem_cons_of_mem _ (List.mem_cons_of_mem _ (List.mem_cons_of_mem _ (List.mem_cons_of_mem _ (List.mem_cons_of_mem _ (List.mem_cons_of_mem _ (List.mem_cons_of_mem _ (List.mem_cons_self))))))))))) rfl
theorem mW410 : Cond.instanceMethod yX7_comeFrom ∈ gWs := gWs_tab (c_gT25 (List.mem_cons_of_mem _ (List.mem_cons_of_mem _ (List.mem_cons_of_mem _ (List.mem_cons_of_mem _ (List.mem_cons_of_mem _ (List.mem_cons_of_mem _ (List.mem_cons_of_mem _ (List.mem_cons_of_mem _ (List.mem_cons_of_mem _ (List.mem_cons_of_mem _ (List.mem_cons_self)))))))))))) rfl
theorem mW411 : Cond.selects RX7 yX7_comeFrom yX7_comeFrom ∈ gWs := gWs_tab (c_gT25 (List.mem_cons_of_mem _ (List.mem_cons_of_mem _ (List.mem_cons_of_mem _ (List.mem_cons_of_mem _ (List.mem_cons_of_mem _ (List.mem_cons_of_mem _ (List.mem_cons_of_mem _ (List.mem_cons_of_mem _ (List.mem_cons_of_mem _ (List.mem_cons_of_mem _ (List.mem_cons_of_mem _ (List.mem_cons_self))))))))))))) rfl
theorem mW412 : Cond.code yX7_comeFrom cX7_comeFrom 3 none ∈ gWs := gWs_tab (c_gT25 (List.mem_cons_of_mem _ (List.mem_cons_of_mem _ (List.mem_cons_of_mem _ (List.mem_cons_of_mem _ (List.mem_cons_of_mem _ (List.mem_cons_of_mem _ (List.mem_cons_of_mem _ (List.mem_cons_of_mem _ (List.mem_cons_of_mem _ (List.mem_cons_of_mem _ (List.mem_cons_of_mem _ (List.mem_cons_of_mem _ (List.mem_cons_self)))))))))))))) rfl
theorem mW413 : Cond.methodLink RL 86 yX8_chance ∈ gWs := gWs_tab (c_gT25 (List.mem_cons_of_mem _ (List.mem_cons_of_mem _ (List.mem_cons_of_mem _ (List.mem_cons_of_mem _ (List.mem_cons_of_mem _ (List.mem_cons_of_mem _ (List.mem_cons_of_mem _ (List.mem_cons_of_mem _ (List.mem_cons_of_mem _ (List.mem_cons_of_mem _ (List.mem_cons_of_mem _ (List.mem_cons_of_mem _ (List.mem_cons_of_mem _ (List.mem_cons_self))))))))))))))) rfl
theorem mW414 : Cond.instanceMethod yX8_chance ∈ gWs := gWs_tab (c_gT25 (List.mem_cons_of_mem _ (List.mem_cons_of_mem _ (List.mem_cons_of_mem _ (List.mem_cons_of_mem _ (List.mem_cons_of_mem _ (List.mem_cons_of_mem _ (List.mem_cons_of_mem _ (List.mem_cons_of_mem _ (List.mem_cons_of_mem _ (List.mem_cons_of_mem _ (List.mem_cons_of_mem _ (List.mem_cons_of_mem _ (List.mem_cons_of_mem _ (List.mem_cons_of_mem _ (List.mem_cons_self)))))))))))))))) rfl
theorem mW415 : Cond.selects RX8 yX8_chance yX8_chance ∈ gWs := gWs_tab (c_gT25 (List.mem_cons_of_mem _ (List.mem_cons_of_mem _ (List.mem_cons_of_mem _ (List.mem_cons_of_mem _ (List.mem_cons_of_mem _ (List.mem_cons_of_mem _ (List.mem_cons_of_mem _ (List.mem_cons_of_mem _ (List.mem_cons_of_mem _ (List.mem_cons_of_mem _ (List.mem_cons_of_mem _ (List.mem_cons_of_mem _ (List.mem_cons_of_mem _ (List.mem_cons_of_mem _ (List.mem_cons_of_mem _ (List.mem_cons_self))))))))))))))))) rfl
theorem c_gT26 {w : Cond} (h : w ∈ gT26) : w ∈ tables_1 := t_tables_1_2 (List.mem_append_right _ (List.mem_append_right _ (List.mem_append_right _ (List.mem_append_right _ (List.mem_append_right _ (List.mem_append_right _ (List.mem_append_right _ (List.mem_append_right _ (List.mem_append_right _ (List.mem_append_right _ (List.mem_append_right _ (List.mem_append_left _ h))))))))))))
theorem mW416 : Cond.code yX8_chance cX8_chance 5 (some .int) ∈ gWs := gWs_tab (c_gT26 (List.mem_cons_self)) rfl
theorem mW417 : Cond.methodLink RX8 175 yX7_hasAll ∈ gWs := gWs_tab (c_gT26 (List.mem_cons_of_mem _ (List.mem_cons_self))) rfl
theorem mW418 : Cond.instanceMethod yX7_hasAll ∈ gWs := gWs_tab (c_gT26 (List.mem_cons_of_mem _ (List.mem_cons_of_mem _ (List.mem_cons_self)))) rfl
theorem mW419 : Cond.selects RX7 yX7_hasAll yX7_hasAll ∈ gWs := gWs_tab (c_gT26 (List.mem_cons_of_mem _ (List.mem_cons_of_mem _ (List.mem_cons_of_mem _ (List.mem_cons_self))))) rfl
theorem mW420 : Cond.code yX7_hasAll cX7_hasAll 5 (some .boolean) ∈ gWs := gWs_tab (c_gT26 (List.mem_cons_of_mem _ (List.mem_cons_of_mem _ (List.mem_cons_of_mem _ (List.mem_cons_of_mem _ (List.mem_cons_self)))))) rfl
theorem mW421 : Cond.methodLink RX7 34 yX7_has ∈ gWs := gWs_tab (c_gT26 (List.mem_cons_of_mem _ (List.mem_cons_of_mem _ (List.mem_cons_of_mem _ (List.mem_cons_of_mem _ (List.mem_cons_of_mem _ (List.mem_cons_self))))))) rfl
theorem mW422 : Cond.methodLink RX8 178 yX5_follow ∈ gWs := gWs_tab (c_gT26 (List.mem_cons_of_mem _ (List.mem_cons_of_mem _ (List.mem_cons_of_mem _ (List.mem_cons_of_mem _ (List.mem_cons_of_mem _ (List.mem_cons_of_mem _ (List.mem_cons_self)))))))) rfl
theorem mW423 : Cond.instanceMethod yX5_follow ∈ gWs := gWs_tab (c_gT26 (List.mem_cons_of_mem _ (List.mem_cons_of_mem _ (List.mem_cons_of_mem _ (List.mem_cons_of_mem _ (List.mem_cons_of_mem _ (List.mem_cons_of_mem _ (List.mem_cons_of_mem _ (List.mem_cons_self))))))))) rfl
theorem mW424 : Cond.selects RX5 yX5_follow yX5_follow ∈ gWs := gWs_tab (c_gT26 (List.mem_cons_of_mem _ (List.mem_cons_of_mem _ (List.mem_cons_of_mem _ (List.mem_cons_of_mem _ (List.mem_cons_of_mem _ (List.mem_cons_of_mem _ (List.mem_cons_of_mem _ (List.mem_cons_of_mem _ (List.mem_cons_self)))))))))) rfl
theorem mW425 : Cond.code yX5_follow cX5_follow 7 (some .boolean) ∈ gWs := gWs_tab (c_gT26 (List.mem_cons_of_mem _ (List.mem_cons_of_mem _ (List.mem_cons_of_mem _ (List.mem_cons_of_mem _ (List.mem_cons_of_mem _ (List.mem_cons_of_mem _ (List.mem_cons_of_mem _ (List.mem_cons_of_mem _ (List.mem_cons_of_mem _ (List.mem_cons_self))))))))))) rfl
theorem mW426 : Cond.methodLink RX5 25 arraycopyName ∈ gWs := gWs_tab (c_gT26 (List.mem_cons_of_mem _ (List.mem_cons_of_mem _ (List.mem_cons_of_mem _ (List.mem_cons_of_mem _ (List.mem_cons_of_mem _ (List.mem_cons_of_mem _ (List.mem_cons_of_mem _ (List.mem_cons_of_mem _ (List.mem_cons_of_mem _ (List.mem_cons_of_mem _ (List.mem_cons_self)))))))))))) rfl
theorem mW427 : Cond.methodLink RX5 31 yX7_lets ∈ gWs := gWs_tab (c_gT26 (List.mem_cons_of_mem _ (List.mem_cons_of_mem _ (List.mem_cons_of_mem _ (List.mem_cons_of_mem _ (List.mem_cons_of_mem _ (List.mem_cons_of_mem _ (List.mem_cons_of_mem _ (List.mem_cons_of_mem _ (List.mem_cons_of_mem _ (List.mem_cons_of_mem _ (List.mem_cons_of_mem _ (List.mem_cons_self))))))))))))) rfl
theorem mW428 : Cond.methodLink RX5 35 yX5_comeTimes ∈ gWs := gWs_tab (c_gT26 (List.mem_cons_of_mem _ (List.mem_cons_of_mem _ (List.mem_cons_of_mem _ (List.mem_cons_of_mem _ (List.mem_cons_of_mem _ (List.mem_cons_of_mem _ (List.mem_cons_of_mem _ (List.mem_cons_of_mem _ (List.mem_cons_of_mem _ (List.mem_cons_of_mem _ (List.mem_cons_of_mem _ (List.mem_cons_of_mem _ (List.mem_cons_self)))))))))))))) rfl
theorem mW429 : Cond.instanceMethod yX5_comeTimes ∈ gWs := gWs_tab (c_gT26 (List.mem_cons_of_mem _ (List.mem_cons_of_mem _ (List.mem_cons_of_mem _ (List.mem_cons_of_mem _ (List.mem_cons_of_mem _ (List.mem_cons_of_mem _ (List.mem_cons_of_mem _ (List.mem_cons_of_mem _ (List.mem_cons_of_mem _ (List.mem_cons_of_mem _ (List.mem_cons_of_mem _ (List.mem_cons_of_mem _ (List.mem_cons_of_mem _ (List.mem_cons_self))))))))))))))) rfl
theorem mW430 : Cond.selects RX5 yX5_comeTimes yX5_comeTimes ∈ gWs := gWs_tab (c_gT26 (List.mem_cons_of_mem _ (List.mem_cons_of_mem _ (List.mem_cons_of_mem _ (List.mem_cons_of_mem _ (List.mem_cons_of_mem _ (List.mem_cons_of_mem _ (List.mem_cons_of_mem _ (List.mem_cons_of_mem _ (List.mem_cons_of_mem _ (List.mem_cons_of_mem _ (List.mem_cons_of_mem _ (List.mem_cons_of_mem _ (List.mem_cons_of_mem _ (List.mem_cons_of_mem _ (List.mem_cons_self)))))))))))))))) rfl
theorem mW431 : Cond.code yX5_comeTimes cX5_comeTimes 13 (some .boolean) ∈ gWs := gWs_tab (c_gT26 (List.mem_cons_of_mem _ (List.mem_cons_of_mem _ (List.mem_cons_of_mem _ (List.mem_cons_of_mem _ (List.mem_cons_of_mem _ (List.mem_cons_of_mem _ (List.mem_cons_of_mem _ (List.mem_cons_of_mem _ (List.mem_cons_of_mem _ (List.mem_cons_of_mem _ (List.mem_cons_of_mem _ (List.mem_cons_of_mem _ (List.mem_cons_of_mem _ (List.mem_cons_of_mem _ (List.mem_cons_of_mem _ (List.mem_cons_self))))))))))))))))) rfl
theorem c_gT27 {w : Cond} (h : w ∈ gT27) : w ∈ tables_1 := t_tables_1_2 (List.mem_append_right _ (List.mem_append_right _ (List.mem_append_right _ (List.mem_append_right _ (List.mem_append_right _ (List.mem_append_right _ (List.mem_append_right _ (List.mem_append_right _ (List.mem_append_right _ (List.mem_append_right _ (List.mem_append_right _ (List.mem_append_right _ (List.mem_append_left _ h)))))))))))))
theorem mW432 : Cond.methodLinkNest RX5 43 yX8_common RX8 ∈ lw_tbl := List.mem_append_right _ (c_gT27 (List.mem_cons_self))
theorem mW433 : Cond.static yX8_common ∈ gWs := gWs_tab (c_gT27 (List.mem_cons_of_mem _ (List.mem_cons_self))) rfl
theorem mW434 : Cond.code yX8_common cX8_common 11 (some .long) ∈ gWs := gWs_tab (c_gT27 (List.mem_cons_of_mem _ (List.mem_cons_of_mem _ (List.mem_cons_self)))) rfl
theorem mW435 : Cond.constantLong RX5 47 (1000000000000000000) ∈ gWs := gWs_tab (c_gT27 (List.mem_cons_of_mem _ (List.mem_cons_of_mem _ (List.mem_cons_of_mem _ (List.mem_cons_self))))) rfl
theorem mW436 : Cond.methodLink RX5 39 yX7_grow ∈ gWs := gWs_tab (c_gT27 (List.mem_cons_of_mem _ (List.mem_cons_of_mem _ (List.mem_cons_of_mem _ (List.mem_cons_of_mem _ (List.mem_cons_self)))))) rfl
theorem mW437 : Cond.methodLink RX8 189 yX1_become ∈ gWs := gWs_tab (c_gT27 (List.mem_cons_of_mem _ (List.mem_cons_of_mem _ (List.mem_cons_of_mem _ (List.mem_cons_of_mem _ (List.mem_cons_of_mem _ (List.mem_cons_self))))))) rfl
theorem mW438 : Cond.instanceMethod yX1_become ∈ gWs := gWs_tab (c_gT27 (List.mem_cons_of_mem _ (List.mem_cons_of_mem _ (List.mem_cons_of_mem _ (List.mem_cons_of_mem _ (List.mem_cons_of_mem _ (List.mem_cons_of_mem _ (List.mem_cons_self)))))))) rfl
theorem mW439 : Cond.selects RX1 yX1_become yX1_become ∈ gWs := gWs_tab (c_gT27 (List.mem_cons_of_mem _ (List.mem_cons_of_mem _ (List.mem_cons_of_mem _ (List.mem_cons_of_mem _ (List.mem_cons_of_mem _ (List.mem_cons_of_mem _ (List.mem_cons_of_mem _ (List.mem_cons_self))))))))) rfl
theorem mW440 : Cond.code yX1_become cX1_become 11 none ∈ gWs := gWs_tab (c_gT27 (List.mem_cons_of_mem _ (List.mem_cons_of_mem _ (List.mem_cons_of_mem _ (List.mem_cons_of_mem _ (List.mem_cons_of_mem _ (List.mem_cons_of_mem _ (List.mem_cons_of_mem _ (List.mem_cons_of_mem _ (List.mem_cons_self)))))))))) rfl
theorem mW441 : Cond.methodLinkNest RX1 19 yX8_common RX8 ∈ lw_tbl := List.mem_append_right _ (c_gT27 (List.mem_cons_of_mem _ (List.mem_cons_of_mem _ (List.mem_cons_of_mem _ (List.mem_cons_of_mem _ (List.mem_cons_of_mem _ (List.mem_cons_of_mem _ (List.mem_cons_of_mem _ (List.mem_cons_of_mem _ (List.mem_cons_of_mem _ (List.mem_cons_self)))))))))))
theorem mW442 : Cond.methodLink RL 90 yX8_times ∈ gWs := gWs_tab (c_gT27 (List.mem_cons_of_mem _ (List.mem_cons_of_mem _ (List.mem_cons_of_mem _ (List.mem_cons_of_mem _ (List.mem_cons_of_mem _ (List.mem_cons_of_mem _ (List.mem_cons_of_mem _ (List.mem_cons_of_mem _ (List.mem_cons_of_mem _ (List.mem_cons_of_mem _ (List.mem_cons_self)))))))))))) rfl
theorem mW443 : Cond.instanceMethod yX8_times ∈ gWs := gWs_tab (c_gT27 (List.mem_cons_of_mem _ (List.mem_cons_of_mem _ (List.mem_cons_of_mem _ (List.mem_cons_of_mem _ (List.mem_cons_of_mem _ (List.mem_cons_of_mem _ (List.mem_cons_of_mem _ (List.mem_cons_of_mem _ (List.mem_cons_of_mem _ (List.mem_cons_of_mem _ (List.mem_cons_of_mem _ (List.mem_cons_self))))))))))))) rfl
theorem mW444 : Cond.selects RX8 yX8_times yX8_times ∈ gWs := gWs_tab (c_gT27 (List.mem_cons_of_mem _ (List.mem_cons_of_mem _ (List.mem_cons_of_mem _ (List.mem_cons_of_mem _ (List.mem_cons_of_mem _ (List.mem_cons_of_mem _ (List.mem_cons_of_mem _ (List.mem_cons_of_mem _ (List.mem_cons_of_mem _ (List.mem_cons_of_mem _ (List.mem_cons_of_mem _ (List.mem_cons_of_mem _ (List.mem_cons_self)))))))))))))) rfl
theorem mW445 : Cond.code yX8_times cX8_times 7 (some .int) ∈ gWs := gWs_tab (c_gT27 (List.mem_cons_of_mem _ (List.mem_cons_of_mem _ (List.mem_cons_of_mem _ (List.mem_cons_of_mem _ (List.mem_cons_of_mem _ (List.mem_cons_of_mem _ (List.mem_cons_of_mem _ (List.mem_cons_of_mem _ (List.mem_cons_of_mem _ (List.mem_cons_of_mem _ (List.mem_cons_of_mem _ (List.mem_cons_of_mem _ (List.mem_cons_of_mem _ (List.mem_cons_self))))))))))))))) rfl
theorem mW446 : Cond.methodLink RX8 192 yX8_areDraws ∈ gWs := gWs_tab (c_gT27 (List.mem_cons_of_mem _ (List.mem_cons_of_mem _ (List.mem_cons_of_mem _ (List.mem_cons_of_mem _ (List.mem_cons_of_mem _ (List.mem_cons_of_mem _ (List.mem_cons_of_mem _ (List.mem_cons_of_mem _ (List.mem_cons_of_mem _ (List.mem_cons_of_mem _ (List.mem_cons_of_mem _ (List.mem_cons_of_mem _ (List.mem_cons_of_mem _ (List.mem_cons_of_mem _ (List.mem_cons_self)))))))))))))))) rfl
theorem mW447 : Cond.static yX8_areDraws ∈ gWs := gWs_tab (c_gT27 (List.mem_cons_of_mem _ (List.mem_cons_of_mem _ (List.mem_cons_of_mem _ (List.mem_cons_of_mem _ (List.mem_cons_of_mem _ (List.mem_cons_of_mem _ (List.mem_cons_of_mem _ (List.mem_cons_of_mem _ (List.mem_cons_of_mem _ (List.mem_cons_of_mem _ (List.mem_cons_of_mem _ (List.mem_cons_of_mem _ (List.mem_cons_of_mem _ (List.mem_cons_of_mem _ (List.mem_cons_of_mem _ (List.mem_cons_self))))))))))))))))) rfl
theorem c_gT28 {w : Cond} (h : w ∈ gT28) : w ∈ tables_1 := t_tables_1_2 (List.mem_append_right _ (List.mem_append_right _ (List.mem_append_right _ (List.mem_append_right _ (List.mem_append_right _ (List.mem_append_right _ (List.mem_append_right _ (List.mem_append_right _ (List.mem_append_right _ (List.mem_append_right _ (List.mem_append_right _ (List.mem_append_right _ (List.mem_append_right _ (List.mem_append_left _ h))))))))))))))
theorem mW448 : Cond.code yX8_areDraws cX8_areDraws 1 (some .boolean) ∈ gWs := gWs_tab (c_gT28 (List.mem_cons_self)) rfl
theorem mW449 : Cond.methodLink RX8 195 yX8_weighRows ∈ gWs := gWs_tab (c_gT28 (List.mem_cons_of_mem _ (List.mem_cons_self))) rfl
theorem mW451 : Cond.instanceMethod yX8_weighRows ∈ gWs := gWs_tab (c_gT28 (List.mem_cons_of_mem _ (List.mem_cons_of_mem _ (List.mem_cons_of_mem _ (List.mem_cons_self))))) rfl
theorem mW452 : Cond.code yX8_weighRows cX8_weighRows 4 (some .int) ∈ gWs := gWs_tab (c_gT28 (List.mem_cons_of_mem _ (List.mem_cons_of_mem _ (List.mem_cons_of_mem _ (List.mem_cons_of_mem _ (List.mem_cons_self)))))) rfl
theorem mW453 : Cond.methodLink RX8 228 yX0_findBelow ∈ gWs := gWs_tab (c_gT28 (List.mem_cons_of_mem _ (List.mem_cons_of_mem _ (List.mem_cons_of_mem _ (List.mem_cons_of_mem _ (List.mem_cons_of_mem _ (List.mem_cons_self))))))) rfl
theorem mW454 : Cond.instanceMethod yX0_findBelow ∈ gWs := gWs_tab (c_gT28 (List.mem_cons_of_mem _ (List.mem_cons_of_mem _ (List.mem_cons_of_mem _ (List.mem_cons_of_mem _ (List.mem_cons_of_mem _ (List.mem_cons_of_mem _ (List.mem_cons_self)))))))) rfl
theorem mW455 : Cond.selects RX0 yX0_findBelow yX0_findBelow ∈ gWs := gWs_tab (c_gT28 (List.mem_cons_of_mem _ (List.mem_cons_of_mem _ (List.mem_cons_of_mem _ (List.mem_cons_of_mem _ (List.mem_cons_of_mem _ (List.mem_cons_of_mem _ (List.mem_cons_of_mem _ (List.mem_cons_self))))))))) rfl
theorem mW456 : Cond.code yX0_findBelow cX0_findBelow 6 (some .boolean) ∈ gWs := gWs_tab (c_gT28 (List.mem_cons_of_mem _ (List.mem_cons_of_mem _ (List.mem_cons_of_mem _ (List.mem_cons_of_mem _ (List.mem_cons_of_mem _ (List.mem_cons_of_mem _ (List.mem_cons_of_mem _ (List.mem_cons_of_mem _ (List.mem_cons_self)))))))))) rfl
theorem mW457 : Cond.methodLink RX0 53 yX0_factorAt ∈ gWs := gWs_tab (c_gT28 (List.mem_cons_of_mem _ (List.mem_cons_of_mem _ (List.mem_cons_of_mem _ (List.mem_cons_of_mem _ (List.mem_cons_of_mem _ (List.mem_cons_of_mem _ (List.mem_cons_of_mem _ (List.mem_cons_of_mem _ (List.mem_cons_of_mem _ (List.mem_cons_self))))))))))) rfl
theorem mW458 : Cond.static yX0_factorAt ∈ gWs := gWs_tab (c_gT28 (List.mem_cons_of_mem _ (List.mem_cons_of_mem _ (List.mem_cons_of_mem _ (List.mem_cons_of_mem _ (List.mem_cons_of_mem _ (List.mem_cons_of_mem _ (List.mem_cons_of_mem _ (List.mem_cons_of_mem _ (List.mem_cons_of_mem _ (List.mem_cons_of_mem _ (List.mem_cons_self)))))))))))) rfl
theorem mW459 : Cond.code yX0_factorAt cX0_factorAt 3 (some .long) ∈ gWs := gWs_tab (c_gT28 (List.mem_cons_of_mem _ (List.mem_cons_of_mem _ (List.mem_cons_of_mem _ (List.mem_cons_of_mem _ (List.mem_cons_of_mem _ (List.mem_cons_of_mem _ (List.mem_cons_of_mem _ (List.mem_cons_of_mem _ (List.mem_cons_of_mem _ (List.mem_cons_of_mem _ (List.mem_cons_of_mem _ (List.mem_cons_self))))))))))))) rfl
theorem mW460 : Cond.methodLink RX0 59 yX7_total ∈ gWs := gWs_tab (c_gT28 (List.mem_cons_of_mem _ (List.mem_cons_of_mem _ (List.mem_cons_of_mem _ (List.mem_cons_of_mem _ (List.mem_cons_of_mem _ (List.mem_cons_of_mem _ (List.mem_cons_of_mem _ (List.mem_cons_of_mem _ (List.mem_cons_of_mem _ (List.mem_cons_of_mem _ (List.mem_cons_of_mem _ (List.mem_cons_of_mem _ (List.mem_cons_self)))))))))))))) rfl
theorem mW461 : Cond.methodLink RX0 65 yX7_growth ∈ gWs := gWs_tab (c_gT28 (List.mem_cons_of_mem _ (List.mem_cons_of_mem _ (List.mem_cons_of_mem _ (List.mem_cons_of_mem _ (List.mem_cons_of_mem _ (List.mem_cons_of_mem _ (List.mem_cons_of_mem _ (List.mem_cons_of_mem _ (List.mem_cons_of_mem _ (List.mem_cons_of_mem _ (List.mem_cons_of_mem _ (List.mem_cons_of_mem _ (List.mem_cons_of_mem _ (List.mem_cons_self))))))))))))))) rfl
theorem mW462 : Cond.constantLong RX0 57 (10000000000000000) ∈ gWs := gWs_tab (c_gT28 (List.mem_cons_of_mem _ (List.mem_cons_of_mem _ (List.mem_cons_of_mem _ (List.mem_cons_of_mem _ (List.mem_cons_of_mem _ (List.mem_cons_of_mem _ (List.mem_cons_of_mem _ (List.mem_cons_of_mem _ (List.mem_cons_of_mem _ (List.mem_cons_of_mem _ (List.mem_cons_of_mem _ (List.mem_cons_of_mem _ (List.mem_cons_of_mem _ (List.mem_cons_of_mem _ (List.mem_cons_self)))))))))))))))) rfl
theorem mW463 : Cond.methodLink RX8 218 yX0_letAny ∈ gWs := gWs_tab (c_gT28 (List.mem_cons_of_mem _ (List.mem_cons_of_mem _ (List.mem_cons_of_mem _ (List.mem_cons_of_mem _ (List.mem_cons_of_mem _ (List.mem_cons_of_mem _ (List.mem_cons_of_mem _ (List.mem_cons_of_mem _ (List.mem_cons_of_mem _ (List.mem_cons_of_mem _ (List.mem_cons_of_mem _ (List.mem_cons_of_mem _ (List.mem_cons_of_mem _ (List.mem_cons_of_mem _ (List.mem_cons_of_mem _ (List.mem_cons_self))))))))))))))))) rfl
theorem c_gT29 {w : Cond} (h : w ∈ gT29) : w ∈ tables_1 := t_tables_1_2 (List.mem_append_right _ (List.mem_append_right _ (List.mem_append_right _ (List.mem_append_right _ (List.mem_append_right _ (List.mem_append_right _ (List.mem_append_right _ (List.mem_append_right _ (List.mem_append_right _ (List.mem_append_right _ (List.mem_append_right _ (List.mem_append_right _ (List.mem_append_right _ (List.mem_append_right _ (List.mem_append_left _ h)))))))))))))))
theorem mW464 : Cond.instanceMethod yX0_letAny ∈ gWs := gWs_tab (c_gT29 (List.mem_cons_self)) rfl
theorem mW465 : Cond.selects RX0 yX0_letAny yX0_letAny ∈ gWs := gWs_tab (c_gT29 (List.mem_cons_of_mem _ (List.mem_cons_self))) rfl
theorem mW466 : Cond.code yX0_letAny cX0_letAny 1 none ∈ gWs := gWs_tab (c_gT29 (List.mem_cons_of_mem _ (List.mem_cons_of_mem _ (List.mem_cons_self)))) rfl
theorem mW467 : Cond.methodLink RX0 47 yJ7_fill_53178 ∈ gWs := gWs_tab (c_gT29 (List.mem_cons_of_mem _ (List.mem_cons_of_mem _ (List.mem_cons_of_mem _ (List.mem_cons_self))))) rfl
theorem mW468 : Cond.methodLink RX8 232 yX0_weigh ∈ gWs := gWs_tab (c_gT29 (List.mem_cons_of_mem _ (List.mem_cons_of_mem _ (List.mem_cons_of_mem _ (List.mem_cons_of_mem _ (List.mem_cons_self)))))) rfl
theorem mW469 : Cond.instanceMethod yX0_weigh ∈ gWs := gWs_tab (c_gT29 (List.mem_cons_of_mem _ (List.mem_cons_of_mem _ (List.mem_cons_of_mem _ (List.mem_cons_of_mem _ (List.mem_cons_of_mem _ (List.mem_cons_self))))))) rfl
theorem mW470 : Cond.selects RX0 yX0_weigh yX0_weigh ∈ gWs := gWs_tab (c_gT29 (List.mem_cons_of_mem _ (List.mem_cons_of_mem _ (List.mem_cons_of_mem _ (List.mem_cons_of_mem _ (List.mem_cons_of_mem _ (List.mem_cons_of_mem _ (List.mem_cons_self)))))))) rfl
theorem mW471 : Cond.code yX0_weigh cX0_weigh 4 none ∈ gWs := gWs_tab (c_gT29 (List.mem_cons_of_mem _ (List.mem_cons_of_mem _ (List.mem_cons_of_mem _ (List.mem_cons_of_mem _ (List.mem_cons_of_mem _ (List.mem_cons_of_mem _ (List.mem_cons_of_mem _ (List.mem_cons_self))))))))) rfl
theorem mW472 : Cond.methodLink RX0 69 yX0_walk ∈ gWs := gWs_tab (c_gT29 (List.mem_cons_of_mem _ (List.mem_cons_of_mem _ (List.mem_cons_of_mem _ (List.mem_cons_of_mem _ (List.mem_cons_of_mem _ (List.mem_cons_of_mem _ (List.mem_cons_of_mem _ (List.mem_cons_of_mem _ (List.mem_cons_self)))))))))) rfl
theorem mW474 : Cond.instanceMethod yX0_walk ∈ gWs := gWs_tab (c_gT29 (List.mem_cons_of_mem _ (List.mem_cons_of_mem _ (List.mem_cons_of_mem _ (List.mem_cons_of_mem _ (List.mem_cons_of_mem _ (List.mem_cons_of_mem _ (List.mem_cons_of_mem _ (List.mem_cons_of_mem _ (List.mem_cons_of_mem _ (List.mem_cons_of_mem _ (List.mem_cons_self)))))))))))) rfl
theorem mW475 : Cond.code yX0_walk cX0_walk 7 none ∈ gWs := gWs_tab (c_gT29 (List.mem_cons_of_mem _ (List.mem_cons_of_mem _ (List.mem_cons_of_mem _ (List.mem_cons_of_mem _ (List.mem_cons_of_mem _ (List.mem_cons_of_mem _ (List.mem_cons_of_mem _ (List.mem_cons_of_mem _ (List.mem_cons_of_mem _ (List.mem_cons_of_mem _ (List.mem_cons_of_mem _ (List.mem_cons_self))))))))))))) rfl
theorem mW476 : Cond.methodLink RX0 77 yJ7_fill_d0a16 ∈ gWs := gWs_tab (c_gT29 (List.mem_cons_of_mem _ (List.mem_cons_of_mem _ (List.mem_cons_of_mem _ (List.mem_cons_of_mem _ (List.mem_cons_of_mem _ (List.mem_cons_of_mem _ (List.mem_cons_of_mem _ (List.mem_cons_of_mem _ (List.mem_cons_of_mem _ (List.mem_cons_of_mem _ (List.mem_cons_of_mem _ (List.mem_cons_of_mem _ (List.mem_cons_self)))))))))))))) rfl
theorem mW477 : Cond.methodLink RX0 80 yX0_walkStep ∈ gWs := gWs_tab (c_gT29 (List.mem_cons_of_mem _ (List.mem_cons_of_mem _ (List.mem_cons_of_mem _ (List.mem_cons_of_mem _ (List.mem_cons_of_mem _ (List.mem_cons_of_mem _ (List.mem_cons_of_mem _ (List.mem_cons_of_mem _ (List.mem_cons_of_mem _ (List.mem_cons_of_mem _ (List.mem_cons_of_mem _ (List.mem_cons_of_mem _ (List.mem_cons_of_mem _ (List.mem_cons_self))))))))))))))) rfl
theorem mW479 : Cond.instanceMethod yX0_walkStep ∈ gWs := gWs_tab (c_gT29 (List.mem_cons_of_mem _ (List.mem_cons_of_mem _ (List.mem_cons_of_mem _ (List.mem_cons_of_mem _ (List.mem_cons_of_mem _ (List.mem_cons_of_mem _ (List.mem_cons_of_mem _ (List.mem_cons_of_mem _ (List.mem_cons_of_mem _ (List.mem_cons_of_mem _ (List.mem_cons_of_mem _ (List.mem_cons_of_mem _ (List.mem_cons_of_mem _ (List.mem_cons_of_mem _ (List.mem_cons_of_mem _ (List.mem_cons_self))))))))))))))))) rfl
theorem c_gT30 {w : Cond} (h : w ∈ gT30) : w ∈ tables_1 := t_tables_1_3 (List.mem_append_left _ h)
theorem mW480 : Cond.code yX0_walkStep cX0_walkStep 12 none ∈ gWs := gWs_tab (c_gT30 (List.mem_cons_self)) rfl
theorem mW481 : Cond.fieldLink RX0 84 "GrowingUrns$After" "STEPS" "[I" ∈ gWs := gWs_tab (c_gT30 (List.mem_cons_of_mem _ (List.mem_cons_self))) rfl
theorem mW482 : Cond.laysStatic "GrowingUrns$After" "STEPS" "[I" ∈ lw_tbl := List.mem_append_right _ (c_gT30 (List.mem_cons_of_mem _ (List.mem_cons_of_mem _ (List.mem_cons_self))))
theorem mW483 : Cond.methodLink RX0 87 yX0_findBalls ∈ gWs := gWs_tab (c_gT30 (List.mem_cons_of_mem _ (List.mem_cons_of_mem _ (List.mem_cons_of_mem _ (List.mem_cons_self))))) rfl
theorem mW485 : Cond.instanceMethod yX0_findBalls ∈ gWs := gWs_tab (c_gT30 (List.mem_cons_of_mem _ (List.mem_cons_of_mem _ (List.mem_cons_of_mem _ (List.mem_cons_of_mem _ (List.mem_cons_of_mem _ (List.mem_cons_self))))))) rfl
theorem mW486 : Cond.code yX0_findBalls cX0_findBalls 4 none ∈ gWs := gWs_tab (c_gT30 (List.mem_cons_of_mem _ (List.mem_cons_of_mem _ (List.mem_cons_of_mem _ (List.mem_cons_of_mem _ (List.mem_cons_of_mem _ (List.mem_cons_of_mem _ (List.mem_cons_self)))))))) rfl
theorem mW487 : Cond.methodLink RX0 91 yX0_settle ∈ gWs := gWs_tab (c_gT30 (List.mem_cons_of_mem _ (List.mem_cons_of_mem _ (List.mem_cons_of_mem _ (List.mem_cons_of_mem _ (List.mem_cons_of_mem _ (List.mem_cons_of_mem _ (List.mem_cons_of_mem _ (List.mem_cons_self))))))))) rfl
theorem mW489 : Cond.instanceMethod yX0_settle ∈ gWs := gWs_tab (c_gT30 (List.mem_cons_of_mem _ (List.mem_cons_of_mem _ (List.mem_cons_of_mem _ (List.mem_cons_of_mem _ (List.mem_cons_of_mem _ (List.mem_cons_of_mem _ (List.mem_cons_of_mem _ (List.mem_cons_of_mem _ (List.mem_cons_of_mem _ (List.mem_cons_self))))))))))) rfl
theorem mW490 : Cond.code yX0_settle cX0_settle 5 none ∈ gWs := gWs_tab (c_gT30 (List.mem_cons_of_mem _ (List.mem_cons_of_mem _ (List.mem_cons_of_mem _ (List.mem_cons_of_mem _ (List.mem_cons_of_mem _ (List.mem_cons_of_mem _ (List.mem_cons_of_mem _ (List.mem_cons_of_mem _ (List.mem_cons_of_mem _ (List.mem_cons_of_mem _ (List.mem_cons_self)))))))))))) rfl
theorem mW491 : Cond.methodLink RX0 95 yX0_spread ∈ gWs := gWs_tab (c_gT30 (List.mem_cons_of_mem _ (List.mem_cons_of_mem _ (List.mem_cons_of_mem _ (List.mem_cons_of_mem _ (List.mem_cons_of_mem _ (List.mem_cons_of_mem _ (List.mem_cons_of_mem _ (List.mem_cons_of_mem _ (List.mem_cons_of_mem _ (List.mem_cons_of_mem _ (List.mem_cons_of_mem _ (List.mem_cons_self))))))))))))) rfl
theorem mW493 : Cond.instanceMethod yX0_spread ∈ gWs := gWs_tab (c_gT30 (List.mem_cons_of_mem _ (List.mem_cons_of_mem _ (List.mem_cons_of_mem _ (List.mem_cons_of_mem _ (List.mem_cons_of_mem _ (List.mem_cons_of_mem _ (List.mem_cons_of_mem _ (List.mem_cons_of_mem _ (List.mem_cons_of_mem _ (List.mem_cons_of_mem _ (List.mem_cons_of_mem _ (List.mem_cons_of_mem _ (List.mem_cons_of_mem _ (List.mem_cons_self))))))))))))))) rfl
theorem mW494 : Cond.code yX0_spread cX0_spread 10 none ∈ gWs := gWs_tab (c_gT30 (List.mem_cons_of_mem _ (List.mem_cons_of_mem _ (List.mem_cons_of_mem _ (List.mem_cons_of_mem _ (List.mem_cons_of_mem _ (List.mem_cons_of_mem _ (List.mem_cons_of_mem _ (List.mem_cons_of_mem _ (List.mem_cons_of_mem _ (List.mem_cons_of_mem _ (List.mem_cons_of_mem _ (List.mem_cons_of_mem _ (List.mem_cons_of_mem _ (List.mem_cons_of_mem _ (List.mem_cons_self)))))))))))))))) rfl
theorem mW495 : Cond.methodLink RX0 107 yX7_lets ∈ gWs := gWs_tab (c_gT30 (List.mem_cons_of_mem _ (List.mem_cons_of_mem _ (List.mem_cons_of_mem _ (List.mem_cons_of_mem _ (List.mem_cons_of_mem _ (List.mem_cons_of_mem _ (List.mem_cons_of_mem _ (List.mem_cons_of_mem _ (List.mem_cons_of_mem _ (List.mem_cons_of_mem _ (List.mem_cons_of_mem _ (List.mem_cons_of_mem _ (List.mem_cons_of_mem _ (List.mem_cons_of_mem _ (List.mem_cons_of_mem _ (List.mem_cons_self))))))))))))))))) rfl
theorem c_gT31 {w : Cond} (h : w ∈ gT31) : w ∈ tables_1 := t_tables_1_3 (List.mem_append_right _ (List.mem_append_left _ h))
theorem mW496 : Cond.methodLink RL 94 yX8_left ∈ gWs := gWs_tab (c_gT31 (List.mem_cons_self)) rfl
theorem mW497 : Cond.instanceMethod yX8_left ∈ gWs := gWs_tab (c_gT31 (List.mem_cons_of_mem _ (List.mem_cons_self))) rfl
theorem mW498 : Cond.selects RX8 yX8_left yX8_left ∈ gWs := gWs_tab (c_gT31 (List.mem_cons_of_mem _ (List.mem_cons_of_mem _ (List.mem_cons_self)))) rfl
theorem mW499 : Cond.code yX8_left cX8_left 7 (some .int) ∈ gWs := gWs_tab (c_gT31 (List.mem_cons_of_mem _ (List.mem_cons_of_mem _ (List.mem_cons_of_mem _ (List.mem_cons_self))))) rfl
theorem mW500 : Cond.methodLink RL 98 yX8_stuck ∈ gWs := gWs_tab (c_gT31 (List.mem_cons_of_mem _ (List.mem_cons_of_mem _ (List.mem_cons_of_mem _ (List.mem_cons_of_mem _ (List.mem_cons_self)))))) rfl
theorem mW501 : Cond.instanceMethod yX8_stuck ∈ gWs := gWs_tab (c_gT31 (List.mem_cons_of_mem _ (List.mem_cons_of_mem _ (List.mem_cons_of_mem _ (List.mem_cons_of_mem _ (List.mem_cons_of_mem _ (List.mem_cons_self))))))) rfl
theorem mW502 : Cond.selects RX8 yX8_stuck yX8_stuck ∈ gWs := gWs_tab (c_gT31 (List.mem_cons_of_mem _ (List.mem_cons_of_mem _ (List.mem_cons_of_mem _ (List.mem_cons_of_mem _ (List.mem_cons_of_mem _ (List.mem_cons_of_mem _ (List.mem_cons_self)))))))) rfl
theorem mW503 : Cond.code yX8_stuck cX8_stuck 5 (some .int) ∈ gWs := gWs_tab (c_gT31 (List.mem_cons_of_mem _ (List.mem_cons_of_mem _ (List.mem_cons_of_mem _ (List.mem_cons_of_mem _ (List.mem_cons_of_mem _ (List.mem_cons_of_mem _ (List.mem_cons_of_mem _ (List.mem_cons_self))))))))) rfl
theorem mW504 : Cond.methodLink RL 102 yX8_mean ∈ gWs := gWs_tab (c_gT31 (List.mem_cons_of_mem _ (List.mem_cons_of_mem _ (List.mem_cons_of_mem _ (List.mem_cons_of_mem _ (List.mem_cons_of_mem _ (List.mem_cons_of_mem _ (List.mem_cons_of_mem _ (List.mem_cons_of_mem _ (List.mem_cons_self)))))))))) rfl
theorem mW505 : Cond.instanceMethod yX8_mean ∈ gWs := gWs_tab (c_gT31 (List.mem_cons_of_mem _ (List.mem_cons_of_mem _ (List.mem_cons_of_mem _ (List.mem_cons_of_mem _ (List.mem_cons_of_mem _ (List.mem_cons_of_mem _ (List.mem_cons_of_mem _ (List.mem_cons_of_mem _ (List.mem_cons_of_mem _ (List.mem_cons_self))))))))))) rfl
theorem mW506 : Cond.selects RX8 yX8_mean yX8_mean ∈ gWs := gWs_tab (c_gT31 (List.mem_cons_of_mem _ (List.mem_cons_of_mem _ (List.mem_cons_of_mem _ (List.mem_cons_of_mem _ (List.mem_cons_of_mem _ (List.mem_cons_of_mem _ (List.mem_cons_of_mem _ (List.mem_cons_of_mem _ (List.mem_cons_of_mem _ (List.mem_cons_of_mem _ (List.mem_cons_self)))))))))))) rfl
theorem mW507 : Cond.code yX8_mean cX8_mean 7 (some .int) ∈ gWs := gWs_tab (c_gT31 (List.mem_cons_of_mem _ (List.mem_cons_of_mem _ (List.mem_cons_of_mem _ (List.mem_cons_of_mem _ (List.mem_cons_of_mem _ (List.mem_cons_of_mem _ (List.mem_cons_of_mem _ (List.mem_cons_of_mem _ (List.mem_cons_of_mem _ (List.mem_cons_of_mem _ (List.mem_cons_of_mem _ (List.mem_cons_self))))))))))))) rfl
theorem mW508 : Cond.methodLink RX8 209 yX0_findMean ∈ gWs := gWs_tab (c_gT31 (List.mem_cons_of_mem _ (List.mem_cons_of_mem _ (List.mem_cons_of_mem _ (List.mem_cons_of_mem _ (List.mem_cons_of_mem _ (List.mem_cons_of_mem _ (List.mem_cons_of_mem _ (List.mem_cons_of_mem _ (List.mem_cons_of_mem _ (List.mem_cons_of_mem _ (List.mem_cons_of_mem _ (List.mem_cons_of_mem _ (List.mem_cons_self)))))))))))))) rfl
theorem mW509 : Cond.instanceMethod yX0_findMean ∈ gWs := gWs_tab (c_gT31 (List.mem_cons_of_mem _ (List.mem_cons_of_mem _ (List.mem_cons_of_mem _ (List.mem_cons_of_mem _ (List.mem_cons_of_mem _ (List.mem_cons_of_mem _ (List.mem_cons_of_mem _ (List.mem_cons_of_mem _ (List.mem_cons_of_mem _ (List.mem_cons_of_mem _ (List.mem_cons_of_mem _ (List.mem_cons_of_mem _ (List.mem_cons_of_mem _ (List.mem_cons_self))))))))))))))) rfl
theorem mW510 : Cond.selects RX0 yX0_findMean yX0_findMean ∈ gWs := gWs_tab (c_gT31 (List.mem_cons_of_mem _ (List.mem_cons_of_mem _ (List.mem_cons_of_mem _ (List.mem_cons_of_mem _ (List.mem_cons_of_mem _ (List.mem_cons_of_mem _ (List.mem_cons_of_mem _ (List.mem_cons_of_mem _ (List.mem_cons_of_mem _ (List.mem_cons_of_mem _ (List.mem_cons_of_mem _ (List.mem_cons_of_mem _ (List.mem_cons_of_mem _ (List.mem_cons_of_mem _ (List.mem_cons_self)))))))))))))))) rfl
theorem mW511 : Cond.code yX0_findMean cX0_findMean 10 none ∈ gWs := gWs_tab (c_gT31 (List.mem_cons_of_mem _ (List.mem_cons_of_mem _ (List.mem_cons_of_mem _ (List.mem_cons_of_mem _ (List.mem_cons_of_mem _ (List.mem_cons_of_mem _ (List.mem_cons_of_mem _ (List.mem_cons_of_mem _ (List.mem_cons_of_mem _ (List.mem_cons_of_mem _ (List.mem_cons_of_mem _ (List.mem_cons_of_mem _ (List.mem_cons_of_mem _ (List.mem_cons_of_mem _ (List.mem_cons_of_mem _ (List.mem_cons_self))))))))))))))))) rfl
theorem c_gT32 {w : Cond} (h : w ∈ gT32) : w ∈ tables_1 := t_tables_1_3 (List.mem_append_right _ (List.mem_append_right _ (List.mem_append_left _ h)))
theorem mW512 : Cond.methodLink RL 106 yX8_told ∈ gWs := gWs_tab (c_gT32 (List.mem_cons_self)) rfl
theorem mW513 : Cond.instanceMethod yX8_told ∈ gWs := gWs_tab (c_gT32 (List.mem_cons_of_mem _ (List.mem_cons_self))) rfl
theorem mW514 : Cond.selects RX8 yX8_told yX8_told ∈ gWs := gWs_tab (c_gT32 (List.mem_cons_of_mem _ (List.mem_cons_of_mem _ (List.mem_cons_self)))) rfl
theorem mW515 : Cond.code yX8_told cX8_told 9 (some .int) ∈ gWs := gWs_tab (c_gT32 (List.mem_cons_of_mem _ (List.mem_cons_of_mem _ (List.mem_cons_of_mem _ (List.mem_cons_self))))) rfl
theorem mW516 : Cond.methodLink RX8 221 yX0_letOnly ∈ gWs := gWs_tab (c_gT32 (List.mem_cons_of_mem _ (List.mem_cons_of_mem _ (List.mem_cons_of_mem _ (List.mem_cons_of_mem _ (List.mem_cons_self)))))) rfl
theorem mW517 : Cond.instanceMethod yX0_letOnly ∈ gWs := gWs_tab (c_gT32 (List.mem_cons_of_mem _ (List.mem_cons_of_mem _ (List.mem_cons_of_mem _ (List.mem_cons_of_mem _ (List.mem_cons_of_mem _ (List.mem_cons_self))))))) rfl
theorem mW518 : Cond.selects RX0 yX0_letOnly yX0_letOnly ∈ gWs := gWs_tab (c_gT32 (List.mem_cons_of_mem _ (List.mem_cons_of_mem _ (List.mem_cons_of_mem _ (List.mem_cons_of_mem _ (List.mem_cons_of_mem _ (List.mem_cons_of_mem _ (List.mem_cons_self)))))))) rfl
theorem mW519 : Cond.code yX0_letOnly cX0_letOnly 3 none ∈ gWs := gWs_tab (c_gT32 (List.mem_cons_of_mem _ (List.mem_cons_of_mem _ (List.mem_cons_of_mem _ (List.mem_cons_of_mem _ (List.mem_cons_of_mem _ (List.mem_cons_of_mem _ (List.mem_cons_of_mem _ (List.mem_cons_self))))))))) rfl
theorem mW520 : Cond.methodLink RX8 224 yX0_countRows ∈ gWs := gWs_tab (c_gT32 (List.mem_cons_of_mem _ (List.mem_cons_of_mem _ (List.mem_cons_of_mem _ (List.mem_cons_of_mem _ (List.mem_cons_of_mem _ (List.mem_cons_of_mem _ (List.mem_cons_of_mem _ (List.mem_cons_of_mem _ (List.mem_cons_self)))))))))) rfl
theorem mW521 : Cond.instanceMethod yX0_countRows ∈ gWs := gWs_tab (c_gT32 (List.mem_cons_of_mem _ (List.mem_cons_of_mem _ (List.mem_cons_of_mem _ (List.mem_cons_of_mem _ (List.mem_cons_of_mem _ (List.mem_cons_of_mem _ (List.mem_cons_of_mem _ (List.mem_cons_of_mem _ (List.mem_cons_of_mem _ (List.mem_cons_self))))))))))) rfl
theorem mW522 : Cond.selects RX0 yX0_countRows yX0_countRows ∈ gWs := gWs_tab (c_gT32 (List.mem_cons_of_mem _ (List.mem_cons_of_mem _ (List.mem_cons_of_mem _ (List.mem_cons_of_mem _ (List.mem_cons_of_mem _ (List.mem_cons_of_mem _ (List.mem_cons_of_mem _ (List.mem_cons_of_mem _ (List.mem_cons_of_mem _ (List.mem_cons_of_mem _ (List.mem_cons_self)))))))))))) rfl
theorem mW523 : Cond.code yX0_countRows cX0_countRows 3 (some .long) ∈ gWs := gWs_tab (c_gT32 (List.mem_cons_of_mem _ (List.mem_cons_of_mem _ (List.mem_cons_of_mem _ (List.mem_cons_of_mem _ (List.mem_cons_of_mem _ (List.mem_cons_of_mem _ (List.mem_cons_of_mem _ (List.mem_cons_of_mem _ (List.mem_cons_of_mem _ (List.mem_cons_of_mem _ (List.mem_cons_of_mem _ (List.mem_cons_self))))))))))))) rfl
theorem mW524 : Cond.methodLink RX0 73 yX0_through ∈ gWs := gWs_tab (c_gT32 (List.mem_cons_of_mem _ (List.mem_cons_of_mem _ (List.mem_cons_of_mem _ (List.mem_cons_of_mem _ (List.mem_cons_of_mem _ (List.mem_cons_of_mem _ (List.mem_cons_of_mem _ (List.mem_cons_of_mem _ (List.mem_cons_of_mem _ (List.mem_cons_of_mem _ (List.mem_cons_of_mem _ (List.mem_cons_of_mem _ (List.mem_cons_self)))))))))))))) rfl
theorem mW525 : Cond.instanceMethod yX0_through ∈ gWs := gWs_tab (c_gT32 (List.mem_cons_of_mem _ (List.mem_cons_of_mem _ (List.mem_cons_of_mem _ (List.mem_cons_of_mem _ (List.mem_cons_of_mem _ (List.mem_cons_of_mem _ (List.mem_cons_of_mem _ (List.mem_cons_of_mem _ (List.mem_cons_of_mem _ (List.mem_cons_of_mem _ (List.mem_cons_of_mem _ (List.mem_cons_of_mem _ (List.mem_cons_of_mem _ (List.mem_cons_self))))))))))))))) rfl
theorem mW526 : Cond.selects RX0 yX0_through yX0_through ∈ gWs := gWs_tab (c_gT32 (List.mem_cons_of_mem _ (List.mem_cons_of_mem _ (List.mem_cons_of_mem _ (List.mem_cons_of_mem _ (List.mem_cons_of_mem _ (List.mem_cons_of_mem _ (List.mem_cons_of_mem _ (List.mem_cons_of_mem _ (List.mem_cons_of_mem _ (List.mem_cons_of_mem _ (List.mem_cons_of_mem _ (List.mem_cons_of_mem _ (List.mem_cons_of_mem _ (List.mem_cons_of_mem _ (List.mem_cons_self)))))))))))))))) rfl
theorem mW527 : Cond.code yX0_through cX0_through 8 (some .long) ∈ gWs := gWs_tab (c_gT32 (List.mem_cons_of_mem _ (List.mem_cons_of_mem _ (List.mem_cons_of_mem _ (List.mem_cons_of_mem _ (List.mem_cons_of_mem _ (List.mem_cons_of_mem _ (List.mem_cons_of_mem _ (List.mem_cons_of_mem _ (List.mem_cons_of_mem _ (List.mem_cons_of_mem _ (List.mem_cons_of_mem _ (List.mem_cons_of_mem _ (List.mem_cons_of_mem _ (List.mem_cons_of_mem _ (List.mem_cons_of_mem _ (List.mem_cons_self))))))))))))))))) rfl
theorem c_gT33 {w : Cond} (h : w ∈ gT33) : w ∈ tables_1 := t_tables_1_3 (List.mem_append_right _ (List.mem_append_right _ (List.mem_append_right _ (List.mem_append_left _ h))))
theorem mW528 : Cond.methodLink RX8 236 yX0_through ∈ gWs := gWs_tab (c_gT33 (List.mem_cons_self)) rfl
theorem mW529 : Cond.methodLink RL 110 yX8_share ∈ gWs := gWs_tab (c_gT33 (List.mem_cons_of_mem _ (List.mem_cons_self))) rfl
theorem mW530 : Cond.instanceMethod yX8_share ∈ gWs := gWs_tab (c_gT33 (List.mem_cons_of_mem _ (List.mem_cons_of_mem _ (List.mem_cons_self)))) rfl
theorem mW531 : Cond.selects RX8 yX8_share yX8_share ∈ gWs := gWs_tab (c_gT33 (List.mem_cons_of_mem _ (List.mem_cons_of_mem _ (List.mem_cons_of_mem _ (List.mem_cons_self))))) rfl
theorem mW532 : Cond.code yX8_share cX8_share 11 (some .int) ∈ gWs := gWs_tab (c_gT33 (List.mem_cons_of_mem _ (List.mem_cons_of_mem _ (List.mem_cons_of_mem _ (List.mem_cons_of_mem _ (List.mem_cons_self)))))) rfl
theorem mW533 : Cond.methodLink RL 114 yX8_free ∈ gWs := gWs_tab (c_gT33 (List.mem_cons_of_mem _ (List.mem_cons_of_mem _ (List.mem_cons_of_mem _ (List.mem_cons_of_mem _ (List.mem_cons_of_mem _ (List.mem_cons_self))))))) rfl
theorem mW534 : Cond.instanceMethod yX8_free ∈ gWs := gWs_tab (c_gT33 (List.mem_cons_of_mem _ (List.mem_cons_of_mem _ (List.mem_cons_of_mem _ (List.mem_cons_of_mem _ (List.mem_cons_of_mem _ (List.mem_cons_of_mem _ (List.mem_cons_self)))))))) rfl
theorem mW535 : Cond.selects RX8 yX8_free yX8_free ∈ gWs := gWs_tab (c_gT33 (List.mem_cons_of_mem _ (List.mem_cons_of_mem _ (List.mem_cons_of_mem _ (List.mem_cons_of_mem _ (List.mem_cons_of_mem _ (List.mem_cons_of_mem _ (List.mem_cons_of_mem _ (List.mem_cons_self))))))))) rfl
theorem mW536 : Cond.code yX8_free cX8_free 4 (some .int) ∈ gWs := gWs_tab (c_gT33 (List.mem_cons_of_mem _ (List.mem_cons_of_mem _ (List.mem_cons_of_mem _ (List.mem_cons_of_mem _ (List.mem_cons_of_mem _ (List.mem_cons_of_mem _ (List.mem_cons_of_mem _ (List.mem_cons_of_mem _ (List.mem_cons_self)))))))))) rfl
theorem mW537 : Cond.methodLink RX8 240 yX3_areAlike ∈ gWs := gWs_tab (c_gT33 (List.mem_cons_of_mem _ (List.mem_cons_of_mem _ (List.mem_cons_of_mem _ (List.mem_cons_of_mem _ (List.mem_cons_of_mem _ (List.mem_cons_of_mem _ (List.mem_cons_of_mem _ (List.mem_cons_of_mem _ (List.mem_cons_of_mem _ (List.mem_cons_self))))))))))) rfl
theorem mW538 : Cond.instanceMethod yX3_areAlike ∈ gWs := gWs_tab (c_gT33 (List.mem_cons_of_mem _ (List.mem_cons_of_mem _ (List.mem_cons_of_mem _ (List.mem_cons_of_mem _ (List.mem_cons_of_mem _ (List.mem_cons_of_mem _ (List.mem_cons_of_mem _ (List.mem_cons_of_mem _ (List.mem_cons_of_mem _ (List.mem_cons_of_mem _ (List.mem_cons_self)))))))))))) rfl
theorem mW539 : Cond.selects RX3 yX3_areAlike yX3_areAlike ∈ gWs := gWs_tab (c_gT33 (List.mem_cons_of_mem _ (List.mem_cons_of_mem _ (List.mem_cons_of_mem _ (List.mem_cons_of_mem _ (List.mem_cons_of_mem _ (List.mem_cons_of_mem _ (List.mem_cons_of_mem _ (List.mem_cons_of_mem _ (List.mem_cons_of_mem _ (List.mem_cons_of_mem _ (List.mem_cons_of_mem _ (List.mem_cons_self))))))))))))) rfl
theorem mW540 : Cond.code yX3_areAlike cX3_areAlike 6 (some .boolean) ∈ gWs := gWs_tab (c_gT33 (List.mem_cons_of_mem _ (List.mem_cons_of_mem _ (List.mem_cons_of_mem _ (List.mem_cons_of_mem _ (List.mem_cons_of_mem _ (List.mem_cons_of_mem _ (List.mem_cons_of_mem _ (List.mem_cons_of_mem _ (List.mem_cons_of_mem _ (List.mem_cons_of_mem _ (List.mem_cons_of_mem _ (List.mem_cons_of_mem _ (List.mem_cons_self)))))))))))))) rfl
theorem mW541 : Cond.methodLink RX3 18 yJ7_fill_d0a16 ∈ gWs := gWs_tab (c_gT33 (List.mem_cons_of_mem _ (List.mem_cons_of_mem _ (List.mem_cons_of_mem _ (List.mem_cons_of_mem _ (List.mem_cons_of_mem _ (List.mem_cons_of_mem _ (List.mem_cons_of_mem _ (List.mem_cons_of_mem _ (List.mem_cons_of_mem _ (List.mem_cons_of_mem _ (List.mem_cons_of_mem _ (List.mem_cons_of_mem _ (List.mem_cons_of_mem _ (List.mem_cons_self))))))))))))))) rfl
theorem mW542 : Cond.methodLink RX3 24 yX7_hasAll ∈ gWs := gWs_tab (c_gT33 (List.mem_cons_of_mem _ (List.mem_cons_of_mem _ (List.mem_cons_of_mem _ (List.mem_cons_of_mem _ (List.mem_cons_of_mem _ (List.mem_cons_of_mem _ (List.mem_cons_of_mem _ (List.mem_cons_of_mem _ (List.mem_cons_of_mem _ (List.mem_cons_of_mem _ (List.mem_cons_of_mem _ (List.mem_cons_of_mem _ (List.mem_cons_of_mem _ (List.mem_cons_of_mem _ (List.mem_cons_self)))))))))))))))) rfl
theorem mW543 : Cond.methodLink RX3 30 yX5_follow ∈ gWs := gWs_tab (c_gT33 (List.mem_cons_of_mem _ (List.mem_cons_of_mem _ (List.mem_cons_of_mem _ (List.mem_cons_of_mem _ (List.mem_cons_of_mem _ (List.mem_cons_of_mem _ (List.mem_cons_of_mem _ (List.mem_cons_of_mem _ (List.mem_cons_of_mem _ (List.mem_cons_of_mem _ (List.mem_cons_of_mem _ (List.mem_cons_of_mem _ (List.mem_cons_of_mem _ (List.mem_cons_of_mem _ (List.mem_cons_of_mem _ (List.mem_cons_self))))))))))))))))) rfl
theorem c_gT34 {w : Cond} (h : w ∈ gT34) : w ∈ tables_1 := t_tables_1_3 (List.mem_append_right _ (List.mem_append_right _ (List.mem_append_right _ (List.mem_append_right _ (List.mem_append_left _ h)))))
theorem mW544 : Cond.methodLink RX3 36 yX3_placeOf ∈ gWs := gWs_tab (c_gT34 (List.mem_cons_self)) rfl
theorem mW545 : Cond.static yX3_placeOf ∈ gWs := gWs_tab (c_gT34 (List.mem_cons_of_mem _ (List.mem_cons_self))) rfl
theorem mW546 : Cond.code yX3_placeOf cX3_placeOf 5 (some .int) ∈ gWs := gWs_tab (c_gT34 (List.mem_cons_of_mem _ (List.mem_cons_of_mem _ (List.mem_cons_self)))) rfl
theorem mW547 : Cond.fieldLink RX3 44 "GrowingUrns$Orders" "STEPS" "[I" ∈ gWs := gWs_tab (c_gT34 (List.mem_cons_of_mem _ (List.mem_cons_of_mem _ (List.mem_cons_of_mem _ (List.mem_cons_self))))) rfl
theorem mW548 : Cond.laysStatic "GrowingUrns$Orders" "STEPS" "[I" ∈ lw_tbl := List.mem_append_right _ (c_gT34 (List.mem_cons_of_mem _ (List.mem_cons_of_mem _ (List.mem_cons_of_mem _ (List.mem_cons_of_mem _ (List.mem_cons_self))))))
theorem mW549 : Cond.methodLink RX3 40 yX3_isAsAhead ∈ gWs := gWs_tab (c_gT34 (List.mem_cons_of_mem _ (List.mem_cons_of_mem _ (List.mem_cons_of_mem _ (List.mem_cons_of_mem _ (List.mem_cons_of_mem _ (List.mem_cons_self))))))) rfl
theorem mW551 : Cond.instanceMethod yX3_isAsAhead ∈ gWs := gWs_tab (c_gT34 (List.mem_cons_of_mem _ (List.mem_cons_of_mem _ (List.mem_cons_of_mem _ (List.mem_cons_of_mem _ (List.mem_cons_of_mem _ (List.mem_cons_of_mem _ (List.mem_cons_of_mem _ (List.mem_cons_self))))))))) rfl
theorem mW552 : Cond.code yX3_isAsAhead cX3_isAsAhead 3 (some .boolean) ∈ gWs := gWs_tab (c_gT34 (List.mem_cons_of_mem _ (List.mem_cons_of_mem _ (List.mem_cons_of_mem _ (List.mem_cons_of_mem _ (List.mem_cons_of_mem _ (List.mem_cons_of_mem _ (List.mem_cons_of_mem _ (List.mem_cons_of_mem _ (List.mem_cons_self)))))))))) rfl
theorem mW553 : Cond.methodLink RL 118 yX8_part ∈ gWs := gWs_tab (c_gT34 (List.mem_cons_of_mem _ (List.mem_cons_of_mem _ (List.mem_cons_of_mem _ (List.mem_cons_of_mem _ (List.mem_cons_of_mem _ (List.mem_cons_of_mem _ (List.mem_cons_of_mem _ (List.mem_cons_of_mem _ (List.mem_cons_of_mem _ (List.mem_cons_self))))))))))) rfl
theorem mW554 : Cond.instanceMethod yX8_part ∈ gWs := gWs_tab (c_gT34 (List.mem_cons_of_mem _ (List.mem_cons_of_mem _ (List.mem_cons_of_mem _ (List.mem_cons_of_mem _ (List.mem_cons_of_mem _ (List.mem_cons_of_mem _ (List.mem_cons_of_mem _ (List.mem_cons_of_mem _ (List.mem_cons_of_mem _ (List.mem_cons_of_mem _ (List.mem_cons_self)))))))))))) rfl
theorem mW555 : Cond.selects RX8 yX8_part yX8_part ∈ gWs := gWs_tab (c_gT34 (List.mem_cons_of_mem _ (List.mem_cons_of_mem _ (List.mem_cons_of_mem _ (List.mem_cons_of_mem _ (List.mem_cons_of_mem _ (List.mem_cons_of_mem _ (List.mem_cons_of_mem _ (List.mem_cons_of_mem _ (List.mem_cons_of_mem _ (List.mem_cons_of_mem _ (List.mem_cons_of_mem _ (List.mem_cons_self))))))))))))) rfl
theorem mW556 : Cond.code yX8_part cX8_part 2 (some .long) ∈ gWs := gWs_tab (c_gT34 (List.mem_cons_of_mem _ (List.mem_cons_of_mem _ (List.mem_cons_of_mem _ (List.mem_cons_of_mem _ (List.mem_cons_of_mem _ (List.mem_cons_of_mem _ (List.mem_cons_of_mem _ (List.mem_cons_of_mem _ (List.mem_cons_of_mem _ (List.mem_cons_of_mem _ (List.mem_cons_of_mem _ (List.mem_cons_of_mem _ (List.mem_cons_self)))))))))))))) rfl
theorem mW557 : Cond.constantLong RX8 249 (-1) ∈ gWs := gWs_tab (c_gT34 (List.mem_cons_of_mem _ (List.mem_cons_of_mem _ (List.mem_cons_of_mem _ (List.mem_cons_of_mem _ (List.mem_cons_of_mem _ (List.mem_cons_of_mem _ (List.mem_cons_of_mem _ (List.mem_cons_of_mem _ (List.mem_cons_of_mem _ (List.mem_cons_of_mem _ (List.mem_cons_of_mem _ (List.mem_cons_of_mem _ (List.mem_cons_of_mem _ (List.mem_cons_self))))))))))))))) rfl
theorem mW558 : Cond.methodLink RL 123 yX8_count ∈ gWs := gWs_tab (c_gT34 (List.mem_cons_of_mem _ (List.mem_cons_of_mem _ (List.mem_cons_of_mem _ (List.mem_cons_of_mem _ (List.mem_cons_of_mem _ (List.mem_cons_of_mem _ (List.mem_cons_of_mem _ (List.mem_cons_of_mem _ (List.mem_cons_of_mem _ (List.mem_cons_of_mem _ (List.mem_cons_of_mem _ (List.mem_cons_of_mem _ (List.mem_cons_of_mem _ (List.mem_cons_of_mem _ (List.mem_cons_self)))))))))))))))) rfl
theorem mW559 : Cond.instanceMethod yX8_count ∈ gWs := gWs_tab (c_gT34 (List.mem_cons_of_mem _ (List.mem_cons_of_mem _ (List.mem_cons_of_mem _ (List.mem_cons_of_mem _ (List.mem_cons_of_mem _ (List.mem_cons_of_mem _ (List.mem_cons_of_mem _ (List.mem_cons_of_mem _ (List.mem_cons_of_mem _ (List.mem_cons_of_mem _ (List.mem_cons_of_mem _ (List.mem_cons_of_mem _ (List.mem_cons_of_mem _ (List.mem_cons_of_mem _ (List.mem_cons_of_mem _ (List.mem_cons_self))))))))))))))))) rfl
theorem c_gT35 {w : Cond} (h : w ∈ gT35) : w ∈ tables_1 := t_tables_1_3 (List.mem_append_right _ (List.mem_append_right _ (List.mem_append_right _ (List.mem_append_right _ (List.mem_append_right _ (List.mem_append_left _ h))))))
theorem mW560 : Cond.selects RX8 yX8_count yX8_count ∈ gWs := gWs_tab (c_gT35 (List.mem_cons_self)) rfl
theorem mW561 : Cond.code yX8_count cX8_count 2 (some .int) ∈ gWs := gWs_tab (c_gT35 (List.mem_cons_of_mem _ (List.mem_cons_self))) rfl
theorem mW562 : Cond.methodLink RX8 252 yX8_drawsInAll ∈ gWs := gWs_tab (c_gT35 (List.mem_cons_of_mem _ (List.mem_cons_of_mem _ (List.mem_cons_self)))) rfl
theorem mW564 : Cond.instanceMethod yX8_drawsInAll ∈ gWs := gWs_tab (c_gT35 (List.mem_cons_of_mem _ (List.mem_cons_of_mem _ (List.mem_cons_of_mem _ (List.mem_cons_of_mem _ (List.mem_cons_self)))))) rfl
theorem mW565 : Cond.code yX8_drawsInAll cX8_drawsInAll 3 (some .int) ∈ gWs := gWs_tab (c_gT35 (List.mem_cons_of_mem _ (List.mem_cons_of_mem _ (List.mem_cons_of_mem _ (List.mem_cons_of_mem _ (List.mem_cons_of_mem _ (List.mem_cons_self))))))) rfl
theorem mW566 : Cond.classLink RL 10 RX9 ∈ gWs := gWs_tab (c_gT35 (List.mem_cons_of_mem _ (List.mem_cons_of_mem _ (List.mem_cons_of_mem _ (List.mem_cons_of_mem _ (List.mem_cons_of_mem _ (List.mem_cons_of_mem _ (List.mem_cons_self)))))))) rfl
theorem mW567 : Cond.instantiable RX9 26 ∈ gWs := gWs_tab (c_gT35 (List.mem_cons_of_mem _ (List.mem_cons_of_mem _ (List.mem_cons_of_mem _ (List.mem_cons_of_mem _ (List.mem_cons_of_mem _ (List.mem_cons_of_mem _ (List.mem_cons_of_mem _ (List.mem_cons_self))))))))) rfl
theorem mW568 : Cond.methodLink RL 12 yX9_init ∈ gWs := gWs_tab (c_gT35 (List.mem_cons_of_mem _ (List.mem_cons_of_mem _ (List.mem_cons_of_mem _ (List.mem_cons_of_mem _ (List.mem_cons_of_mem _ (List.mem_cons_of_mem _ (List.mem_cons_of_mem _ (List.mem_cons_of_mem _ (List.mem_cons_self)))))))))) rfl
theorem mW569 : Cond.instanceMethod yX9_init ∈ gWs := gWs_tab (c_gT35 (List.mem_cons_of_mem _ (List.mem_cons_of_mem _ (List.mem_cons_of_mem _ (List.mem_cons_of_mem _ (List.mem_cons_of_mem _ (List.mem_cons_of_mem _ (List.mem_cons_of_mem _ (List.mem_cons_of_mem _ (List.mem_cons_of_mem _ (List.mem_cons_self))))))))))) rfl
theorem mW570 : Cond.code yX9_init cX9_init 3 none ∈ gWs := gWs_tab (c_gT35 (List.mem_cons_of_mem _ (List.mem_cons_of_mem _ (List.mem_cons_of_mem _ (List.mem_cons_of_mem _ (List.mem_cons_of_mem _ (List.mem_cons_of_mem _ (List.mem_cons_of_mem _ (List.mem_cons_of_mem _ (List.mem_cons_of_mem _ (List.mem_cons_of_mem _ (List.mem_cons_self)))))))))))) rfl
theorem mW571 : Cond.methodLink RX9 1 objectInit ∈ gWs := gWs_tab (c_gT35 (List.mem_cons_of_mem _ (List.mem_cons_of_mem _ (List.mem_cons_of_mem _ (List.mem_cons_of_mem _ (List.mem_cons_of_mem _ (List.mem_cons_of_mem _ (List.mem_cons_of_mem _ (List.mem_cons_of_mem _ (List.mem_cons_of_mem _ (List.mem_cons_of_mem _ (List.mem_cons_of_mem _ (List.mem_cons_self))))))))))))) rfl
theorem mW572 : Cond.fieldLink RX9 7 "GrowingUrnsModel" "sheetKind" "[I" ∈ gWs := gWs_tab (c_gT35 (List.mem_cons_of_mem _ (List.mem_cons_of_mem _ (List.mem_cons_of_mem _ (List.mem_cons_of_mem _ (List.mem_cons_of_mem _ (List.mem_cons_of_mem _ (List.mem_cons_of_mem _ (List.mem_cons_of_mem _ (List.mem_cons_of_mem _ (List.mem_cons_of_mem _ (List.mem_cons_of_mem _ (List.mem_cons_of_mem _ (List.mem_cons_self)))))))))))))) rfl
theorem mW573 : Cond.fieldLink RX9 13 "GrowingUrnsModel" "sheetSize" "[I" ∈ gWs := gWs_tab (c_gT35 (List.mem_cons_of_mem _ (List.mem_cons_of_mem _ (List.mem_cons_of_mem _ (List.mem_cons_of_mem _ (List.mem_cons_of_mem _ (List.mem_cons_of_mem _ (List.mem_cons_of_mem _ (List.mem_cons_of_mem _ (List.mem_cons_of_mem _ (List.mem_cons_of_mem _ (List.mem_cons_of_mem _ (List.mem_cons_of_mem _ (List.mem_cons_of_mem _ (List.mem_cons_self))))))))))))))) rfl
theorem mW574 : Cond.fieldLink RX9 16 "GrowingUrnsModel" "sheet" "[J" ∈ gWs := gWs_tab (c_gT35 (List.mem_cons_of_mem _ (List.mem_cons_of_mem _ (List.mem_cons_of_mem _ (List.mem_cons_of_mem _ (List.mem_cons_of_mem _ (List.mem_cons_of_mem _ (List.mem_cons_of_mem _ (List.mem_cons_of_mem _ (List.mem_cons_of_mem _ (List.mem_cons_of_mem _ (List.mem_cons_of_mem _ (List.mem_cons_of_mem _ (List.mem_cons_of_mem _ (List.mem_cons_of_mem _ (List.mem_cons_self)))))))))))))))) rfl
theorem mW575 : Cond.fieldLink RX9 20 "GrowingUrnsModel" "spare" "[J" ∈ gWs := gWs_tab (c_gT35 (List.mem_cons_of_mem _ (List.mem_cons_of_mem _ (List.mem_cons_of_mem _ (List.mem_cons_of_mem _ (List.mem_cons_of_mem _ (List.mem_cons_of_mem _ (List.mem_cons_of_mem _ (List.mem_cons_of_mem _ (List.mem_cons_of_mem _ (List.mem_cons_of_mem _ (List.mem_cons_of_mem _ (List.mem_cons_of_mem _ (List.mem_cons_of_mem _ (List.mem_cons_of_mem _ (List.mem_cons_of_mem _ (List.mem_cons_self))))))))))))))))) rfl
theorem c_gT36 {w : Cond} (h : w ∈ gT36) : w ∈ tables_1 := t_tables_1_3 (List.mem_append_right _ (List.mem_append_right _ (List.mem_append_right _ (List.mem_append_right _ (List.mem_append_right _ (List.mem_append_right _ (List.mem_append_left _ h)))))))
theorem mW576 : Cond.fieldLink RX9 82 "GrowingUrnsModel" "urns" "I" ∈ gWs := gWs_tab (c_gT36 (List.mem_cons_self)) rfl
theorem mW577 : Cond.fieldLink RX9 23 "GrowingUrnsModel" "colours" "[I" ∈ gWs := gWs_tab (c_gT36 (List.mem_cons_of_mem _ (List.mem_cons_self))) rfl
theorem mW578 : Cond.fieldLink RX9 26 "GrowingUrnsModel" "st" "[I" ∈ gWs := gWs_tab (c_gT36 (List.mem_cons_of_mem _ (List.mem_cons_of_mem _ (List.mem_cons_self)))) rfl
theorem mW579 : Cond.fieldLink RX9 29 "GrowingUrnsModel" "kept" "[I" ∈ gWs := gWs_tab (c_gT36 (List.mem_cons_of_mem _ (List.mem_cons_of_mem _ (List.mem_cons_of_mem _ (List.mem_cons_self))))) rfl
theorem mW580 : Cond.fieldLink RX9 86 "GrowingUrnsModel" "keptMany" "I" ∈ gWs := gWs_tab (c_gT36 (List.mem_cons_of_mem _ (List.mem_cons_of_mem _ (List.mem_cons_of_mem _ (List.mem_cons_of_mem _ (List.mem_cons_self)))))) rfl
theorem mW581 : Cond.fieldLink RX9 154 "GrowingUrnsModel" "whole" "J" ∈ gWs := gWs_tab (c_gT36 (List.mem_cons_of_mem _ (List.mem_cons_of_mem _ (List.mem_cons_of_mem _ (List.mem_cons_of_mem _ (List.mem_cons_of_mem _ (List.mem_cons_self))))))) rfl
theorem mW582 : Cond.fieldLink RX9 157 "GrowingUrnsModel" "up" "J" ∈ gWs := gWs_tab (c_gT36 (List.mem_cons_of_mem _ (List.mem_cons_of_mem _ (List.mem_cons_of_mem _ (List.mem_cons_of_mem _ (List.mem_cons_of_mem _ (List.mem_cons_of_mem _ (List.mem_cons_self)))))))) rfl
theorem mW583 : Cond.fieldLink RX9 32 "GrowingUrnsModel" "down" "J" ∈ gWs := gWs_tab (c_gT36 (List.mem_cons_of_mem _ (List.mem_cons_of_mem _ (List.mem_cons_of_mem _ (List.mem_cons_of_mem _ (List.mem_cons_of_mem _ (List.mem_cons_of_mem _ (List.mem_cons_of_mem _ (List.mem_cons_self))))))))) rfl
theorem mW584 : Cond.fieldLink RX9 129 "GrowingUrnsModel" "steps" "I" ∈ gWs := gWs_tab (c_gT36 (List.mem_cons_of_mem _ (List.mem_cons_of_mem _ (List.mem_cons_of_mem _ (List.mem_cons_of_mem _ (List.mem_cons_of_mem _ (List.mem_cons_of_mem _ (List.mem_cons_of_mem _ (List.mem_cons_of_mem _ (List.mem_cons_self)))))))))) rfl
theorem mW585 : Cond.fieldLink RX9 36 "GrowingUrnsModel" "stepUrn" "[I" ∈ gWs := gWs_tab (c_gT36 (List.mem_cons_of_mem _ (List.mem_cons_of_mem _ (List.mem_cons_of_mem _ (List.mem_cons_of_mem _ (List.mem_cons_of_mem _ (List.mem_cons_of_mem _ (List.mem_cons_of_mem _ (List.mem_cons_of_mem _ (List.mem_cons_of_mem _ (List.mem_cons_self))))))))))) rfl
theorem mW586 : Cond.fieldLink RX9 39 "GrowingUrnsModel" "stepColour" "[I" ∈ gWs := gWs_tab (c_gT36 (List.mem_cons_of_mem _ (List.mem_cons_of_mem _ (List.mem_cons_of_mem _ (List.mem_cons_of_mem _ (List.mem_cons_of_mem _ (List.mem_cons_of_mem _ (List.mem_cons_of_mem _ (List.mem_cons_of_mem _ (List.mem_cons_of_mem _ (List.mem_cons_of_mem _ (List.mem_cons_self)))))))))))) rfl
theorem mW587 : Cond.fieldLink RX9 132 "GrowingUrnsModel" "seedThen" "I" ∈ gWs := gWs_tab (c_gT36 (List.mem_cons_of_mem _ (List.mem_cons_of_mem _ (List.mem_cons_of_mem _ (List.mem_cons_of_mem _ (List.mem_cons_of_mem _ (List.mem_cons_of_mem _ (List.mem_cons_of_mem _ (List.mem_cons_of_mem _ (List.mem_cons_of_mem _ (List.mem_cons_of_mem _ (List.mem_cons_of_mem _ (List.mem_cons_self))))))))))))) rfl
theorem mW588 : Cond.fieldLink RX9 42 "GrowingUrnsModel" "now" "[I" ∈ gWs := gWs_tab (c_gT36 (List.mem_cons_of_mem _ (List.mem_cons_of_mem _ (List.mem_cons_of_mem _ (List.mem_cons_of_mem _ (List.mem_cons_of_mem _ (List.mem_cons_of_mem _ (List.mem_cons_of_mem _ (List.mem_cons_of_mem _ (List.mem_cons_of_mem _ (List.mem_cons_of_mem _ (List.mem_cons_of_mem _ (List.mem_cons_of_mem _ (List.mem_cons_self)))))))))))))) rfl
theorem mW589 : Cond.fieldLink RX9 160 "GrowingUrnsModel" "rowUp" "J" ∈ gWs := gWs_tab (c_gT36 (List.mem_cons_of_mem _ (List.mem_cons_of_mem _ (List.mem_cons_of_mem _ (List.mem_cons_of_mem _ (List.mem_cons_of_mem _ (List.mem_cons_of_mem _ (List.mem_cons_of_mem _ (List.mem_cons_of_mem _ (List.mem_cons_of_mem _ (List.mem_cons_of_mem _ (List.mem_cons_of_mem _ (List.mem_cons_of_mem _ (List.mem_cons_of_mem _ (List.mem_cons_self))))))))))))))) rfl
theorem mW590 : Cond.fieldLink RX9 163 "GrowingUrnsModel" "rowDown" "J" ∈ gWs := gWs_tab (c_gT36 (List.mem_cons_of_mem _ (List.mem_cons_of_mem _ (List.mem_cons_of_mem _ (List.mem_cons_of_mem _ (List.mem_cons_of_mem _ (List.mem_cons_of_mem _ (List.mem_cons_of_mem _ (List.mem_cons_of_mem _ (List.mem_cons_of_mem _ (List.mem_cons_of_mem _ (List.mem_cons_of_mem _ (List.mem_cons_of_mem _ (List.mem_cons_of_mem _ (List.mem_cons_of_mem _ (List.mem_cons_self)))))))))))))))) rfl
theorem mW591 : Cond.fieldLink RX9 45 "GrowingUrnsModel" "weights" "[J" ∈ gWs := gWs_tab (c_gT36 (List.mem_cons_of_mem _ (List.mem_cons_of_mem _ (List.mem_cons_of_mem _ (List.mem_cons_of_mem _ (List.mem_cons_of_mem _ (List.mem_cons_of_mem _ (List.mem_cons_of_mem _ (List.mem_cons_of_mem _ (List.mem_cons_of_mem _ (List.mem_cons_of_mem _ (List.mem_cons_of_mem _ (List.mem_cons_of_mem _ (List.mem_cons_of_mem _ (List.mem_cons_of_mem _ (List.mem_cons_of_mem _ (List.mem_cons_self))))))))))))))))) rfl
theorem c_gT37 {w : Cond} (h : w ∈ gT37) : w ∈ tables_1 := t_tables_1_3 (List.mem_append_right _ (List.mem_append_right _ (List.mem_append_right _ (List.mem_append_right _ (List.mem_append_right _ (List.mem_append_right _ (List.mem_append_right _ (List.mem_append_left _ h))))))))
theorem mW592 : Cond.fieldLink RX9 178 "GrowingUrnsModel" "deep" "J" ∈ gWs := gWs_tab (c_gT37 (List.mem_cons_self)) rfl
theorem mW593 : Cond.fieldLink RX9 183 "GrowingUrnsModel" "stuckAbove" "J" ∈ gWs := gWs_tab (c_gT37 (List.mem_cons_of_mem _ (List.mem_cons_self))) rfl
theorem mW594 : Cond.fieldLink RX9 48 "GrowingUrnsModel" "drawn" "[I" ∈ gWs := gWs_tab (c_gT37 (List.mem_cons_of_mem _ (List.mem_cons_of_mem _ (List.mem_cons_self)))) rfl
theorem mW595 : Cond.fieldLink RX9 51 "GrowingUrnsModel" "there" "[I" ∈ gWs := gWs_tab (c_gT37 (List.mem_cons_of_mem _ (List.mem_cons_of_mem _ (List.mem_cons_of_mem _ (List.mem_cons_self))))) rfl
theorem mW596 : Cond.fieldLink RX9 54 "GrowingUrnsModel" "firstUp" "[J" ∈ gWs := gWs_tab (c_gT37 (List.mem_cons_of_mem _ (List.mem_cons_of_mem _ (List.mem_cons_of_mem _ (List.mem_cons_of_mem _ (List.mem_cons_self)))))) rfl
theorem mW597 : Cond.fieldLink RX9 57 "GrowingUrnsModel" "firstDown" "[J" ∈ gWs := gWs_tab (c_gT37 (List.mem_cons_of_mem _ (List.mem_cons_of_mem _ (List.mem_cons_of_mem _ (List.mem_cons_of_mem _ (List.mem_cons_of_mem _ (List.mem_cons_self))))))) rfl
theorem mW598 : Cond.laysFinal RX9 "GrowingUrnsModel" "sheetKind" "[I" ∈ gWs := gWs_tab (c_gT37 (List.mem_cons_of_mem _ (List.mem_cons_of_mem _ (List.mem_cons_of_mem _ (List.mem_cons_of_mem _ (List.mem_cons_of_mem _ (List.mem_cons_of_mem _ (List.mem_cons_self)))))))) rfl
theorem mW600 : Cond.laysFinal RX9 "GrowingUrnsModel" "sheetSize" "[I" ∈ gWs := gWs_tab (c_gT37 (List.mem_cons_of_mem _ (List.mem_cons_of_mem _ (List.mem_cons_of_mem _ (List.mem_cons_of_mem _ (List.mem_cons_of_mem _ (List.mem_cons_of_mem _ (List.mem_cons_of_mem _ (List.mem_cons_of_mem _ (List.mem_cons_self)))))))))) rfl
theorem mW602 : Cond.laysFinal RX9 "GrowingUrnsModel" "sheet" "[J" ∈ gWs := gWs_tab (c_gT37 (List.mem_cons_of_mem _ (List.mem_cons_of_mem _ (List.mem_cons_of_mem _ (List.mem_cons_of_mem _ (List.mem_cons_of_mem _ (List.mem_cons_of_mem _ (List.mem_cons_of_mem _ (List.mem_cons_of_mem _ (List.mem_cons_of_mem _ (List.mem_cons_of_mem _ (List.mem_cons_self)))))))))))) rfl
theorem mW604 : Cond.laysFinal RX9 "GrowingUrnsModel" "spare" "[J" ∈ gWs := gWs_tab (c_gT37 (List.mem_cons_of_mem _ (List.mem_cons_of_mem _ (List.mem_cons_of_mem _ (List.mem_cons_of_mem _ (List.mem_cons_of_mem _ (List.mem_cons_of_mem _ (List.mem_cons_of_mem _ (List.mem_cons_of_mem _ (List.mem_cons_of_mem _ (List.mem_cons_of_mem _ (List.mem_cons_of_mem _ (List.mem_cons_of_mem _ (List.mem_cons_self)))))))))))))) rfl
theorem mW606 : Cond.lays RX9 "GrowingUrnsModel" "urns" "I" ∈ gWs := gWs_tab (c_gT37 (List.mem_cons_of_mem _ (List.mem_cons_of_mem _ (List.mem_cons_of_mem _ (List.mem_cons_of_mem _ (List.mem_cons_of_mem _ (List.mem_cons_of_mem _ (List.mem_cons_of_mem _ (List.mem_cons_of_mem _ (List.mem_cons_of_mem _ (List.mem_cons_of_mem _ (List.mem_cons_of_mem _ (List.mem_cons_of_mem _ (List.mem_cons_of_mem _ (List.mem_cons_of_mem _ (List.mem_cons_self)))))))))))))))) rfl
theorem c_gT38 {w : Cond} (h : w ∈ gT38) : w ∈ tables_1 := t_tables_1_3 (List.mem_append_right _ (List.mem_append_right _ (List.mem_append_right _ (List.mem_append_right _ (List.mem_append_right _ (List.mem_append_right _ (List.mem_append_right _ (List.mem_append_right _ (List.mem_append_left _ h)))))))))
theorem mW608 : Cond.laysFinal RX9 "GrowingUrnsModel" "colours" "[I" ∈ gWs := gWs_tab (c_gT38 (List.mem_cons_self)) rfl
theorem mW610 : Cond.laysFinal RX9 "GrowingUrnsModel" "st" "[I" ∈ gWs := gWs_tab (c_gT38 (List.mem_cons_of_mem _ (List.mem_cons_of_mem _ (List.mem_cons_self)))) rfl
theorem mW612 : Cond.laysFinal RX9 "GrowingUrnsModel" "kept" "[I" ∈ gWs := gWs_tab (c_gT38 (List.mem_cons_of_mem _ (List.mem_cons_of_mem _ (List.mem_cons_of_mem _ (List.mem_cons_of_mem _ (List.mem_cons_self)))))) rfl
theorem mW614 : Cond.lays RX9 "GrowingUrnsModel" "keptMany" "I" ∈ gWs := gWs_tab (c_gT38 (List.mem_cons_of_mem _ (List.mem_cons_of_mem _ (List.mem_cons_of_mem _ (List.mem_cons_of_mem _ (List.mem_cons_of_mem _ (List.mem_cons_of_mem _ (List.mem_cons_self)))))))) rfl
theorem mW616 : Cond.lays RX9 "GrowingUrnsModel" "whole" "J" ∈ gWs := gWs_tab (c_gT38 (List.mem_cons_of_mem _ (List.mem_cons_of_mem _ (List.mem_cons_of_mem _ (List.mem_cons_of_mem _ (List.mem_cons_of_mem _ (List.mem_cons_of_mem _ (List.mem_cons_of_mem _ (List.mem_cons_of_mem _ (List.mem_cons_self)))))))))) rfl
theorem mW618 : Cond.lays RX9 "GrowingUrnsModel" "up" "J" ∈ gWs := gWs_tab (c_gT38 (List.mem_cons_of_mem _ (List.mem_cons_of_mem _ (List.mem_cons_of_mem _ (List.mem_cons_of_mem _ (List.mem_cons_of_mem _ (List.mem_cons_of_mem _ (List.mem_cons_of_mem _ (List.mem_cons_of_mem _ (List.mem_cons_of_mem _ (List.mem_cons_of_mem _ (List.mem_cons_self)))))))))))) rfl
theorem mW620 : Cond.lays RX9 "GrowingUrnsModel" "down" "J" ∈ gWs := gWs_tab (c_gT38 (List.mem_cons_of_mem _ (List.mem_cons_of_mem _ (List.mem_cons_of_mem _ (List.mem_cons_of_mem _ (List.mem_cons_of_mem _ (List.mem_cons_of_mem _ (List.mem_cons_of_mem _ (List.mem_cons_of_mem _ (List.mem_cons_of_mem _ (List.mem_cons_of_mem _ (List.mem_cons_of_mem _ (List.mem_cons_of_mem _ (List.mem_cons_self)))))))))))))) rfl
theorem mW622 : Cond.lays RX9 "GrowingUrnsModel" "steps" "I" ∈ gWs := gWs_tab (c_gT38 (List.mem_cons_of_mem _ (List.mem_cons_of_mem _ (List.mem_cons_of_mem _ (List.mem_cons_of_mem _ (List.mem_cons_of_mem _ (List.mem_cons_of_mem _ (List.mem_cons_of_mem _ (List.mem_cons_of_mem _ (List.mem_cons_of_mem _ (List.mem_cons_of_mem _ (List.mem_cons_of_mem _ (List.mem_cons_of_mem _ (List.mem_cons_of_mem _ (List.mem_cons_of_mem _ (List.mem_cons_self)))))))))))))))) rfl
theorem c_gT39 {w : Cond} (h : w ∈ gT39) : w ∈ tables_1 := t_tables_1_3 (List.mem_append_right _ (List.mem_append_right _ (List.mem_append_right _ (List.mem_append_right _ (List.mem_append_right _ (List.mem_append_right _ (List.mem_append_right _ (List.mem_append_right _ (List.mem_append_right _ (List.mem_append_left _ h))))))))))
theorem mW624 : Cond.laysFinal RX9 "GrowingUrnsModel" "stepUrn" "[I" ∈ gWs := gWs_tab (c_gT39 (List.mem_cons_self)) rfl
theorem mW626 : Cond.laysFinal RX9 "GrowingUrnsModel" "stepColour" "[I" ∈ gWs := gWs_tab (c_gT39 (List.mem_cons_of_mem _ (List.mem_cons_of_mem _ (List.mem_cons_self)))) rfl
theorem mW628 : Cond.lays RX9 "GrowingUrnsModel" "seedThen" "I" ∈ gWs := gWs_tab (c_gT39 (List.mem_cons_of_mem _ (List.mem_cons_of_mem _ (List.mem_cons_of_mem _ (List.mem_cons_of_mem _ (List.mem_cons_self)))))) rfl
theorem mW630 : Cond.laysFinal RX9 "GrowingUrnsModel" "now" "[I" ∈ gWs := gWs_tab (c_gT39 (List.mem_cons_of_mem _ (List.mem_cons_of_mem _ (List.mem_cons_of_mem _ (List.mem_cons_of_mem _ (List.mem_cons_of_mem _ (List.mem_cons_of_mem _ (List.mem_cons_self)))))))) rfl
theorem mW632 : Cond.lays RX9 "GrowingUrnsModel" "rowUp" "J" ∈ gWs := gWs_tab (c_gT39 (List.mem_cons_of_mem _ (List.mem_cons_of_mem _ (List.mem_cons_of_mem _ (List.mem_cons_of_mem _ (List.mem_cons_of_mem _ (List.mem_cons_of_mem _ (List.mem_cons_of_mem _ (List.mem_cons_of_mem _ (List.mem_cons_self)))))))))) rfl
theorem mW634 : Cond.lays RX9 "GrowingUrnsModel" "rowDown" "J" ∈ gWs := gWs_tab (c_gT39 (List.mem_cons_of_mem _ (List.mem_cons_of_mem _ (List.mem_cons_of_mem _ (List.mem_cons_of_mem _ (List.mem_cons_of_mem _ (List.mem_cons_of_mem _ (List.mem_cons_of_mem _ (List.mem_cons_of_mem _ (List.mem_cons_of_mem _ (List.mem_cons_of_mem _ (List.mem_cons_self)))))))))))) rfl
theorem mW636 : Cond.laysFinal RX9 "GrowingUrnsModel" "weights" "[J" ∈ gWs := gWs_tab (c_gT39 (List.mem_cons_of_mem _ (List.mem_cons_of_mem _ (List.mem_cons_of_mem _ (List.mem_cons_of_mem _ (List.mem_cons_of_mem _ (List.mem_cons_of_mem _ (List.mem_cons_of_mem _ (List.mem_cons_of_mem _ (List.mem_cons_of_mem _ (List.mem_cons_of_mem _ (List.mem_cons_of_mem _ (List.mem_cons_of_mem _ (List.mem_cons_self)))))))))))))) rfl
theorem mW638 : Cond.lays RX9 "GrowingUrnsModel" "deep" "J" ∈ gWs := gWs_tab (c_gT39 (List.mem_cons_of_mem _ (List.mem_cons_of_mem _ (List.mem_cons_of_mem _ (List.mem_cons_of_mem _ (List.mem_cons_of_mem _ (List.mem_cons_of_mem _ (List.mem_cons_of_mem _ (List.mem_cons_of_mem _ (List.mem_cons_of_mem _ (List.mem_cons_of_mem _ (List.mem_cons_of_mem _ (List.mem_cons_of_mem _ (List.mem_cons_of_mem _ (List.mem_cons_of_mem _ (List.mem_cons_self)))))))))))))))) rfl
theorem c_gT40 {w : Cond} (h : w ∈ gT40) : w ∈ tables_1 := t_tables_1_3 (List.mem_append_right _ (List.mem_append_right _ (List.mem_append_right _ (List.mem_append_right _ (List.mem_append_right _ (List.mem_append_right _ (List.mem_append_right _ (List.mem_append_right _ (List.mem_append_right _ (List.mem_append_right _ (List.mem_append_left _ h)))))))))))
theorem mW640 : Cond.lays RX9 "GrowingUrnsModel" "stuckAbove" "J" ∈ gWs := gWs_tab (c_gT40 (List.mem_cons_self)) rfl
theorem mW642 : Cond.laysFinal RX9 "GrowingUrnsModel" "drawn" "[I" ∈ gWs := gWs_tab (c_gT40 (List.mem_cons_of_mem _ (List.mem_cons_of_mem _ (List.mem_cons_self)))) rfl
theorem mW644 : Cond.laysFinal RX9 "GrowingUrnsModel" "there" "[I" ∈ gWs := gWs_tab (c_gT40 (List.mem_cons_of_mem _ (List.mem_cons_of_mem _ (List.mem_cons_of_mem _ (List.mem_cons_of_mem _ (List.mem_cons_self)))))) rfl
theorem mW646 : Cond.laysFinal RX9 "GrowingUrnsModel" "firstUp" "[J" ∈ gWs := gWs_tab (c_gT40 (List.mem_cons_of_mem _ (List.mem_cons_of_mem _ (List.mem_cons_of_mem _ (List.mem_cons_of_mem _ (List.mem_cons_of_mem _ (List.mem_cons_of_mem _ (List.mem_cons_self)))))))) rfl
theorem mW648 : Cond.laysFinal RX9 "GrowingUrnsModel" "firstDown" "[J" ∈ gWs := gWs_tab (c_gT40 (List.mem_cons_of_mem _ (List.mem_cons_of_mem _ (List.mem_cons_of_mem _ (List.mem_cons_of_mem _ (List.mem_cons_of_mem _ (List.mem_cons_of_mem _ (List.mem_cons_of_mem _ (List.mem_cons_of_mem _ (List.mem_cons_self)))))))))) rfl
theorem mW651 : Cond.methodLink RL 17 yX9_sheet ∈ gWs := gWs_tab (c_gT40 (List.mem_cons_of_mem _ (List.mem_cons_of_mem _ (List.mem_cons_of_mem _ (List.mem_cons_of_mem _ (List.mem_cons_of_mem _ (List.mem_cons_of_mem _ (List.mem_cons_of_mem _ (List.mem_cons_of_mem _ (List.mem_cons_of_mem _ (List.mem_cons_of_mem _ (List.mem_cons_of_mem _ (List.mem_cons_self))))))))))))) rfl
theorem mW652 : Cond.instanceMethod yX9_sheet ∈ gWs := gWs_tab (c_gT40 (List.mem_cons_of_mem _ (List.mem_cons_of_mem _ (List.mem_cons_of_mem _ (List.mem_cons_of_mem _ (List.mem_cons_of_mem _ (List.mem_cons_of_mem _ (List.mem_cons_of_mem _ (List.mem_cons_of_mem _ (List.mem_cons_of_mem _ (List.mem_cons_of_mem _ (List.mem_cons_of_mem _ (List.mem_cons_of_mem _ (List.mem_cons_self)))))))))))))) rfl
theorem mW653 : Cond.selects RX9 yX9_sheet yX9_sheet ∈ gWs := gWs_tab (c_gT40 (List.mem_cons_of_mem _ (List.mem_cons_of_mem _ (List.mem_cons_of_mem _ (List.mem_cons_of_mem _ (List.mem_cons_of_mem _ (List.mem_cons_of_mem _ (List.mem_cons_of_mem _ (List.mem_cons_of_mem _ (List.mem_cons_of_mem _ (List.mem_cons_of_mem _ (List.mem_cons_of_mem _ (List.mem_cons_of_mem _ (List.mem_cons_of_mem _ (List.mem_cons_self))))))))))))))) rfl
theorem mW654 : Cond.code yX9_sheet cX9_sheet 5 (some .int) ∈ gWs := gWs_tab (c_gT40 (List.mem_cons_of_mem _ (List.mem_cons_of_mem _ (List.mem_cons_of_mem _ (List.mem_cons_of_mem _ (List.mem_cons_of_mem _ (List.mem_cons_of_mem _ (List.mem_cons_of_mem _ (List.mem_cons_of_mem _ (List.mem_cons_of_mem _ (List.mem_cons_of_mem _ (List.mem_cons_of_mem _ (List.mem_cons_of_mem _ (List.mem_cons_of_mem _ (List.mem_cons_of_mem _ (List.mem_cons_self)))))))))))))))) rfl
theorem mW655 : Cond.methodLink RX9 66 yX9_isSheet ∈ gWs := gWs_tab (c_gT40 (List.mem_cons_of_mem _ (List.mem_cons_of_mem _ (List.mem_cons_of_mem _ (List.mem_cons_of_mem _ (List.mem_cons_of_mem _ (List.mem_cons_of_mem _ (List.mem_cons_of_mem _ (List.mem_cons_of_mem _ (List.mem_cons_of_mem _ (List.mem_cons_of_mem _ (List.mem_cons_of_mem _ (List.mem_cons_of_mem _ (List.mem_cons_of_mem _ (List.mem_cons_of_mem _ (List.mem_cons_of_mem _ (List.mem_cons_self))))))))))))))))) rfl
theorem c_gT41 {w : Cond} (h : w ∈ gT41) : w ∈ tables_1 := t_tables_1_3 (List.mem_append_right _ (List.mem_append_right _ (List.mem_append_right _ (List.mem_append_right _ (List.mem_append_right _ (List.mem_append_right _ (List.mem_append_right _ (List.mem_append_right _ (List.mem_append_right _ (List.mem_append_right _ (List.mem_append_right _ (List.mem_append_left _ h))))))))))))
theorem mW656 : Cond.static yX9_isSheet ∈ gWs := gWs_tab (c_gT41 (List.mem_cons_self)) rfl
theorem mW657 : Cond.code yX9_isSheet cX9_isSheet 1 (some .boolean) ∈ gWs := gWs_tab (c_gT41 (List.mem_cons_of_mem _ (List.mem_cons_self))) rfl
theorem mW658 : Cond.constantLong RX9 60 (5) ∈ gWs := gWs_tab (c_gT41 (List.mem_cons_of_mem _ (List.mem_cons_of_mem _ (List.mem_cons_self)))) rfl
theorem mW659 : Cond.methodLink RX9 62 yX9_in ∈ gWs := gWs_tab (c_gT41 (List.mem_cons_of_mem _ (List.mem_cons_of_mem _ (List.mem_cons_of_mem _ (List.mem_cons_self))))) rfl
theorem mW660 : Cond.static yX9_in ∈ gWs := gWs_tab (c_gT41 (List.mem_cons_of_mem _ (List.mem_cons_of_mem _ (List.mem_cons_of_mem _ (List.mem_cons_of_mem _ (List.mem_cons_self)))))) rfl
theorem mW661 : Cond.code yX9_in cX9_in 6 (some .boolean) ∈ gWs := gWs_tab (c_gT41 (List.mem_cons_of_mem _ (List.mem_cons_of_mem _ (List.mem_cons_of_mem _ (List.mem_cons_of_mem _ (List.mem_cons_of_mem _ (List.mem_cons_self))))))) rfl
theorem mW662 : Cond.constantLong RX9 70 (-1) ∈ gWs := gWs_tab (c_gT41 (List.mem_cons_of_mem _ (List.mem_cons_of_mem _ (List.mem_cons_of_mem _ (List.mem_cons_of_mem _ (List.mem_cons_of_mem _ (List.mem_cons_of_mem _ (List.mem_cons_self)))))))) rfl
theorem mW663 : Cond.constantLong RX9 72 (2) ∈ gWs := gWs_tab (c_gT41 (List.mem_cons_of_mem _ (List.mem_cons_of_mem _ (List.mem_cons_of_mem _ (List.mem_cons_of_mem _ (List.mem_cons_of_mem _ (List.mem_cons_of_mem _ (List.mem_cons_of_mem _ (List.mem_cons_self))))))))) rfl
theorem mW664 : Cond.methodLink RL 24 yX9_lay ∈ gWs := gWs_tab (c_gT41 (List.mem_cons_of_mem _ (List.mem_cons_of_mem _ (List.mem_cons_of_mem _ (List.mem_cons_of_mem _ (List.mem_cons_of_mem _ (List.mem_cons_of_mem _ (List.mem_cons_of_mem _ (List.mem_cons_of_mem _ (List.mem_cons_self)))))))))) rfl
theorem mW665 : Cond.instanceMethod yX9_lay ∈ gWs := gWs_tab (c_gT41 (List.mem_cons_of_mem _ (List.mem_cons_of_mem _ (List.mem_cons_of_mem _ (List.mem_cons_of_mem _ (List.mem_cons_of_mem _ (List.mem_cons_of_mem _ (List.mem_cons_of_mem _ (List.mem_cons_of_mem _ (List.mem_cons_of_mem _ (List.mem_cons_self))))))))))) rfl
theorem mW666 : Cond.selects RX9 yX9_lay yX9_lay ∈ gWs := gWs_tab (c_gT41 (List.mem_cons_of_mem _ (List.mem_cons_of_mem _ (List.mem_cons_of_mem _ (List.mem_cons_of_mem _ (List.mem_cons_of_mem _ (List.mem_cons_of_mem _ (List.mem_cons_of_mem _ (List.mem_cons_of_mem _ (List.mem_cons_of_mem _ (List.mem_cons_of_mem _ (List.mem_cons_self)))))))))))) rfl
theorem mW667 : Cond.code yX9_lay cX9_lay 6 (some .int) ∈ gWs := gWs_tab (c_gT41 (List.mem_cons_of_mem _ (List.mem_cons_of_mem _ (List.mem_cons_of_mem _ (List.mem_cons_of_mem _ (List.mem_cons_of_mem _ (List.mem_cons_of_mem _ (List.mem_cons_of_mem _ (List.mem_cons_of_mem _ (List.mem_cons_of_mem _ (List.mem_cons_of_mem _ (List.mem_cons_of_mem _ (List.mem_cons_self))))))))))))) rfl
theorem mW668 : Cond.methodLink RX9 74 yX9_placed ∈ gWs := gWs_tab (c_gT41 (List.mem_cons_of_mem _ (List.mem_cons_of_mem _ (List.mem_cons_of_mem _ (List.mem_cons_of_mem _ (List.mem_cons_of_mem _ (List.mem_cons_of_mem _ (List.mem_cons_of_mem _ (List.mem_cons_of_mem _ (List.mem_cons_of_mem _ (List.mem_cons_of_mem _ (List.mem_cons_of_mem _ (List.mem_cons_of_mem _ (List.mem_cons_self)))))))))))))) rfl
theorem mW670 : Cond.instanceMethod yX9_placed ∈ gWs := gWs_tab (c_gT41 (List.mem_cons_of_mem _ (List.mem_cons_of_mem _ (List.mem_cons_of_mem _ (List.mem_cons_of_mem _ (List.mem_cons_of_mem _ (List.mem_cons_of_mem _ (List.mem_cons_of_mem _ (List.mem_cons_of_mem _ (List.mem_cons_of_mem _ (List.mem_cons_of_mem _ (List.mem_cons_of_mem _ (List.mem_cons_of_mem _ (List.mem_cons_of_mem _ (List.mem_cons_of_mem _ (List.mem_cons_self)))))))))))))))) rfl
theorem mW671 : Cond.code yX9_placed cX9_placed 3 (some .int) ∈ gWs := gWs_tab (c_gT41 (List.mem_cons_of_mem _ (List.mem_cons_of_mem _ (List.mem_cons_of_mem _ (List.mem_cons_of_mem _ (List.mem_cons_of_mem _ (List.mem_cons_of_mem _ (List.mem_cons_of_mem _ (List.mem_cons_of_mem _ (List.mem_cons_of_mem _ (List.mem_cons_of_mem _ (List.mem_cons_of_mem _ (List.mem_cons_of_mem _ (List.mem_cons_of_mem _ (List.mem_cons_of_mem _ (List.mem_cons_of_mem _ (List.mem_cons_self))))))))))))))))) rfl
theorem c_gT42 {w : Cond} (h : w ∈ gT42) : w ∈ tables_1 := t_tables_1_3 (List.mem_append_right _ (List.mem_append_right _ (List.mem_append_right _ (List.mem_append_right _ (List.mem_append_right _ (List.mem_append_right _ (List.mem_append_right _ (List.mem_append_right _ (List.mem_append_right _ (List.mem_append_right _ (List.mem_append_right _ (List.mem_append_right _ (List.mem_append_left _ h)))))))))))))
theorem mW672 : Cond.methodLink RX9 78 yX9_cut ∈ gWs := gWs_tab (c_gT42 (List.mem_cons_self)) rfl
theorem mW673 : Cond.static yX9_cut ∈ gWs := gWs_tab (c_gT42 (List.mem_cons_of_mem _ (List.mem_cons_self))) rfl
theorem mW674 : Cond.code yX9_cut cX9_cut 3 (some .long) ∈ gWs := gWs_tab (c_gT42 (List.mem_cons_of_mem _ (List.mem_cons_of_mem _ (List.mem_cons_self)))) rfl
theorem mW675 : Cond.methodLink RL 29 yX9_copy ∈ gWs := gWs_tab (c_gT42 (List.mem_cons_of_mem _ (List.mem_cons_of_mem _ (List.mem_cons_of_mem _ (List.mem_cons_self))))) rfl
theorem mW676 : Cond.instanceMethod yX9_copy ∈ gWs := gWs_tab (c_gT42 (List.mem_cons_of_mem _ (List.mem_cons_of_mem _ (List.mem_cons_of_mem _ (List.mem_cons_of_mem _ (List.mem_cons_self)))))) rfl
theorem mW677 : Cond.selects RX9 yX9_copy yX9_copy ∈ gWs := gWs_tab (c_gT42 (List.mem_cons_of_mem _ (List.mem_cons_of_mem _ (List.mem_cons_of_mem _ (List.mem_cons_of_mem _ (List.mem_cons_of_mem _ (List.mem_cons_self))))))) rfl
theorem mW678 : Cond.code yX9_copy cX9_copy 7 (some .int) ∈ gWs := gWs_tab (c_gT42 (List.mem_cons_of_mem _ (List.mem_cons_of_mem _ (List.mem_cons_of_mem _ (List.mem_cons_of_mem _ (List.mem_cons_of_mem _ (List.mem_cons_of_mem _ (List.mem_cons_self)))))))) rfl
theorem mW679 : Cond.methodLink RL 33 yX9_holds ∈ gWs := gWs_tab (c_gT42 (List.mem_cons_of_mem _ (List.mem_cons_of_mem _ (List.mem_cons_of_mem _ (List.mem_cons_of_mem _ (List.mem_cons_of_mem _ (List.mem_cons_of_mem _ (List.mem_cons_of_mem _ (List.mem_cons_self))))))))) rfl
theorem mW680 : Cond.instanceMethod yX9_holds ∈ gWs := gWs_tab (c_gT42 (List.mem_cons_of_mem _ (List.mem_cons_of_mem _ (List.mem_cons_of_mem _ (List.mem_cons_of_mem _ (List.mem_cons_of_mem _ (List.mem_cons_of_mem _ (List.mem_cons_of_mem _ (List.mem_cons_of_mem _ (List.mem_cons_self)))))))))) rfl
theorem mW681 : Cond.selects RX9 yX9_holds yX9_holds ∈ gWs := gWs_tab (c_gT42 (List.mem_cons_of_mem _ (List.mem_cons_of_mem _ (List.mem_cons_of_mem _ (List.mem_cons_of_mem _ (List.mem_cons_of_mem _ (List.mem_cons_of_mem _ (List.mem_cons_of_mem _ (List.mem_cons_of_mem _ (List.mem_cons_of_mem _ (List.mem_cons_self))))))))))) rfl
theorem mW682 : Cond.code yX9_holds cX9_holds 6 (some .int) ∈ gWs := gWs_tab (c_gT42 (List.mem_cons_of_mem _ (List.mem_cons_of_mem _ (List.mem_cons_of_mem _ (List.mem_cons_of_mem _ (List.mem_cons_of_mem _ (List.mem_cons_of_mem _ (List.mem_cons_of_mem _ (List.mem_cons_of_mem _ (List.mem_cons_of_mem _ (List.mem_cons_of_mem _ (List.mem_cons_self)))))))))))) rfl
theorem mW683 : Cond.methodLink RL 37 yX9_read ∈ gWs := gWs_tab (c_gT42 (List.mem_cons_of_mem _ (List.mem_cons_of_mem _ (List.mem_cons_of_mem _ (List.mem_cons_of_mem _ (List.mem_cons_of_mem _ (List.mem_cons_of_mem _ (List.mem_cons_of_mem _ (List.mem_cons_of_mem _ (List.mem_cons_of_mem _ (List.mem_cons_of_mem _ (List.mem_cons_of_mem _ (List.mem_cons_self))))))))))))) rfl
theorem mW684 : Cond.instanceMethod yX9_read ∈ gWs := gWs_tab (c_gT42 (List.mem_cons_of_mem _ (List.mem_cons_of_mem _ (List.mem_cons_of_mem _ (List.mem_cons_of_mem _ (List.mem_cons_of_mem _ (List.mem_cons_of_mem _ (List.mem_cons_of_mem _ (List.mem_cons_of_mem _ (List.mem_cons_of_mem _ (List.mem_cons_of_mem _ (List.mem_cons_of_mem _ (List.mem_cons_of_mem _ (List.mem_cons_self)))))))))))))) rfl
theorem mW685 : Cond.selects RX9 yX9_read yX9_read ∈ gWs := gWs_tab (c_gT42 (List.mem_cons_of_mem _ (List.mem_cons_of_mem _ (List.mem_cons_of_mem _ (List.mem_cons_of_mem _ (List.mem_cons_of_mem _ (List.mem_cons_of_mem _ (List.mem_cons_of_mem _ (List.mem_cons_of_mem _ (List.mem_cons_of_mem _ (List.mem_cons_of_mem _ (List.mem_cons_of_mem _ (List.mem_cons_of_mem _ (List.mem_cons_of_mem _ (List.mem_cons_self))))))))))))))) rfl
theorem mW686 : Cond.code yX9_read cX9_read 7 (some .int) ∈ gWs := gWs_tab (c_gT42 (List.mem_cons_of_mem _ (List.mem_cons_of_mem _ (List.mem_cons_of_mem _ (List.mem_cons_of_mem _ (List.mem_cons_of_mem _ (List.mem_cons_of_mem _ (List.mem_cons_of_mem _ (List.mem_cons_of_mem _ (List.mem_cons_of_mem _ (List.mem_cons_of_mem _ (List.mem_cons_of_mem _ (List.mem_cons_of_mem _ (List.mem_cons_of_mem _ (List.mem_cons_of_mem _ (List.mem_cons_self)))))))))))))))) rfl
theorem mW687 : Cond.methodLink RX9 89 yX9_isUrn ∈ gWs := gWs_tab (c_gT42 (List.mem_cons_of_mem _ (List.mem_cons_of_mem _ (List.mem_cons_of_mem _ (List.mem_cons_of_mem _ (List.mem_cons_of_mem _ (List.mem_cons_of_mem _ (List.mem_cons_of_mem _ (List.mem_cons_of_mem _ (List.mem_cons_of_mem _ (List.mem_cons_of_mem _ (List.mem_cons_of_mem _ (List.mem_cons_of_mem _ (List.mem_cons_of_mem _ (List.mem_cons_of_mem _ (List.mem_cons_of_mem _ (List.mem_cons_self))))))))))))))))) rfl
theorem c_gT43 {w : Cond} (h : w ∈ gT43) : w ∈ tables_1 := t_tables_1_3 (List.mem_append_right _ (List.mem_append_right _ (List.mem_append_right _ (List.mem_append_right _ (List.mem_append_right _ (List.mem_append_right _ (List.mem_append_right _ (List.mem_append_right _ (List.mem_append_right _ (List.mem_append_right _ (List.mem_append_right _ (List.mem_append_right _ (List.mem_append_right _ (List.mem_append_left _ h))))))))))))))
theorem mW689 : Cond.instanceMethod yX9_isUrn ∈ gWs := gWs_tab (c_gT43 (List.mem_cons_of_mem _ (List.mem_cons_self))) rfl
theorem mW690 : Cond.code yX9_isUrn cX9_isUrn 2 (some .boolean) ∈ gWs := gWs_tab (c_gT43 (List.mem_cons_of_mem _ (List.mem_cons_of_mem _ (List.mem_cons_self)))) rfl
theorem mW691 : Cond.methodLink RX9 92 yX9_isColour ∈ gWs := gWs_tab (c_gT43 (List.mem_cons_of_mem _ (List.mem_cons_of_mem _ (List.mem_cons_of_mem _ (List.mem_cons_self))))) rfl
theorem mW693 : Cond.instanceMethod yX9_isColour ∈ gWs := gWs_tab (c_gT43 (List.mem_cons_of_mem _ (List.mem_cons_of_mem _ (List.mem_cons_of_mem _ (List.mem_cons_of_mem _ (List.mem_cons_of_mem _ (List.mem_cons_self))))))) rfl
theorem mW694 : Cond.code yX9_isColour cX9_isColour 3 (some .boolean) ∈ gWs := gWs_tab (c_gT43 (List.mem_cons_of_mem _ (List.mem_cons_of_mem _ (List.mem_cons_of_mem _ (List.mem_cons_of_mem _ (List.mem_cons_of_mem _ (List.mem_cons_of_mem _ (List.mem_cons_self)))))))) rfl
theorem mW695 : Cond.constantLong RX9 96 (-9) ∈ gWs := gWs_tab (c_gT43 (List.mem_cons_of_mem _ (List.mem_cons_of_mem _ (List.mem_cons_of_mem _ (List.mem_cons_of_mem _ (List.mem_cons_of_mem _ (List.mem_cons_of_mem _ (List.mem_cons_of_mem _ (List.mem_cons_self))))))))) rfl
theorem mW696 : Cond.constantLong RX9 98 (200) ∈ gWs := gWs_tab (c_gT43 (List.mem_cons_of_mem _ (List.mem_cons_of_mem _ (List.mem_cons_of_mem _ (List.mem_cons_of_mem _ (List.mem_cons_of_mem _ (List.mem_cons_of_mem _ (List.mem_cons_of_mem _ (List.mem_cons_of_mem _ (List.mem_cons_self)))))))))) rfl
theorem mW697 : Cond.constantLong RX9 100 (9) ∈ gWs := gWs_tab (c_gT43 (List.mem_cons_of_mem _ (List.mem_cons_of_mem _ (List.mem_cons_of_mem _ (List.mem_cons_of_mem _ (List.mem_cons_of_mem _ (List.mem_cons_of_mem _ (List.mem_cons_of_mem _ (List.mem_cons_of_mem _ (List.mem_cons_of_mem _ (List.mem_cons_self))))))))))) rfl
theorem mW698 : Cond.methodLink RX9 102 yX9_keep ∈ gWs := gWs_tab (c_gT43 (List.mem_cons_of_mem _ (List.mem_cons_of_mem _ (List.mem_cons_of_mem _ (List.mem_cons_of_mem _ (List.mem_cons_of_mem _ (List.mem_cons_of_mem _ (List.mem_cons_of_mem _ (List.mem_cons_of_mem _ (List.mem_cons_of_mem _ (List.mem_cons_of_mem _ (List.mem_cons_self)))))))))))) rfl
theorem mW700 : Cond.instanceMethod yX9_keep ∈ gWs := gWs_tab (c_gT43 (List.mem_cons_of_mem _ (List.mem_cons_of_mem _ (List.mem_cons_of_mem _ (List.mem_cons_of_mem _ (List.mem_cons_of_mem _ (List.mem_cons_of_mem _ (List.mem_cons_of_mem _ (List.mem_cons_of_mem _ (List.mem_cons_of_mem _ (List.mem_cons_of_mem _ (List.mem_cons_of_mem _ (List.mem_cons_of_mem _ (List.mem_cons_self)))))))))))))) rfl
theorem mW701 : Cond.code yX9_keep cX9_keep 2 none ∈ gWs := gWs_tab (c_gT43 (List.mem_cons_of_mem _ (List.mem_cons_of_mem _ (List.mem_cons_of_mem _ (List.mem_cons_of_mem _ (List.mem_cons_of_mem _ (List.mem_cons_of_mem _ (List.mem_cons_of_mem _ (List.mem_cons_of_mem _ (List.mem_cons_of_mem _ (List.mem_cons_of_mem _ (List.mem_cons_of_mem _ (List.mem_cons_of_mem _ (List.mem_cons_of_mem _ (List.mem_cons_self))))))))))))))) rfl
theorem mW702 : Cond.methodLink RL 42 yX9_urn ∈ gWs := gWs_tab (c_gT43 (List.mem_cons_of_mem _ (List.mem_cons_of_mem _ (List.mem_cons_of_mem _ (List.mem_cons_of_mem _ (List.mem_cons_of_mem _ (List.mem_cons_of_mem _ (List.mem_cons_of_mem _ (List.mem_cons_of_mem _ (List.mem_cons_of_mem _ (List.mem_cons_of_mem _ (List.mem_cons_of_mem _ (List.mem_cons_of_mem _ (List.mem_cons_of_mem _ (List.mem_cons_of_mem _ (List.mem_cons_self)))))))))))))))) rfl
theorem mW703 : Cond.instanceMethod yX9_urn ∈ gWs := gWs_tab (c_gT43 (List.mem_cons_of_mem _ (List.mem_cons_of_mem _ (List.mem_cons_of_mem _ (List.mem_cons_of_mem _ (List.mem_cons_of_mem _ (List.mem_cons_of_mem _ (List.mem_cons_of_mem _ (List.mem_cons_of_mem _ (List.mem_cons_of_mem _ (List.mem_cons_of_mem _ (List.mem_cons_of_mem _ (List.mem_cons_of_mem _ (List.mem_cons_of_mem _ (List.mem_cons_of_mem _ (List.mem_cons_of_mem _ (List.mem_cons_self))))))))))))))))) rfl
theorem c_gT44 {w : Cond} (h : w ∈ gT44) : w ∈ tables_1 := t_tables_1_3 (List.mem_append_right _ (List.mem_append_right _ (List.mem_append_right _ (List.mem_append_right _ (List.mem_append_right _ (List.mem_append_right _ (List.mem_append_right _ (List.mem_append_right _ (List.mem_append_right _ (List.mem_append_right _ (List.mem_append_right _ (List.mem_append_right _ (List.mem_append_right _ (List.mem_append_right _ (List.mem_append_left _ h)))))))))))))))
theorem mW704 : Cond.selects RX9 yX9_urn yX9_urn ∈ gWs := gWs_tab (c_gT44 (List.mem_cons_self)) rfl
theorem mW705 : Cond.code yX9_urn cX9_urn 2 (some .int) ∈ gWs := gWs_tab (c_gT44 (List.mem_cons_of_mem _ (List.mem_cons_self))) rfl
theorem mW706 : Cond.constantLong RX9 105 (4) ∈ gWs := gWs_tab (c_gT44 (List.mem_cons_of_mem _ (List.mem_cons_of_mem _ (List.mem_cons_self)))) rfl
theorem mW707 : Cond.methodLink RL 46 yX9_put ∈ gWs := gWs_tab (c_gT44 (List.mem_cons_of_mem _ (List.mem_cons_of_mem _ (List.mem_cons_of_mem _ (List.mem_cons_self))))) rfl
theorem mW708 : Cond.instanceMethod yX9_put ∈ gWs := gWs_tab (c_gT44 (List.mem_cons_of_mem _ (List.mem_cons_of_mem _ (List.mem_cons_of_mem _ (List.mem_cons_of_mem _ (List.mem_cons_self)))))) rfl
theorem mW709 : Cond.selects RX9 yX9_put yX9_put ∈ gWs := gWs_tab (c_gT44 (List.mem_cons_of_mem _ (List.mem_cons_of_mem _ (List.mem_cons_of_mem _ (List.mem_cons_of_mem _ (List.mem_cons_of_mem _ (List.mem_cons_self))))))) rfl
theorem mW710 : Cond.code yX9_put cX9_put 5 (some .int) ∈ gWs := gWs_tab (c_gT44 (List.mem_cons_of_mem _ (List.mem_cons_of_mem _ (List.mem_cons_of_mem _ (List.mem_cons_of_mem _ (List.mem_cons_of_mem _ (List.mem_cons_of_mem _ (List.mem_cons_self)))))))) rfl
theorem mW711 : Cond.methodLink RL 51 yX9_add ∈ gWs := gWs_tab (c_gT44 (List.mem_cons_of_mem _ (List.mem_cons_of_mem _ (List.mem_cons_of_mem _ (List.mem_cons_of_mem _ (List.mem_cons_of_mem _ (List.mem_cons_of_mem _ (List.mem_cons_of_mem _ (List.mem_cons_self))))))))) rfl
theorem mW712 : Cond.instanceMethod yX9_add ∈ gWs := gWs_tab (c_gT44 (List.mem_cons_of_mem _ (List.mem_cons_of_mem _ (List.mem_cons_of_mem _ (List.mem_cons_of_mem _ (List.mem_cons_of_mem _ (List.mem_cons_of_mem _ (List.mem_cons_of_mem _ (List.mem_cons_of_mem _ (List.mem_cons_self)))))))))) rfl
theorem mW713 : Cond.selects RX9 yX9_add yX9_add ∈ gWs := gWs_tab (c_gT44 (List.mem_cons_of_mem _ (List.mem_cons_of_mem _ (List.mem_cons_of_mem _ (List.mem_cons_of_mem _ (List.mem_cons_of_mem _ (List.mem_cons_of_mem _ (List.mem_cons_of_mem _ (List.mem_cons_of_mem _ (List.mem_cons_of_mem _ (List.mem_cons_self))))))))))) rfl
theorem mW714 : Cond.code yX9_add cX9_add 7 (some .int) ∈ gWs := gWs_tab (c_gT44 (List.mem_cons_of_mem _ (List.mem_cons_of_mem _ (List.mem_cons_of_mem _ (List.mem_cons_of_mem _ (List.mem_cons_of_mem _ (List.mem_cons_of_mem _ (List.mem_cons_of_mem _ (List.mem_cons_of_mem _ (List.mem_cons_of_mem _ (List.mem_cons_of_mem _ (List.mem_cons_self)))))))))))) rfl
theorem mW715 : Cond.methodLink RL 55 yX9_is ∈ gWs := gWs_tab (c_gT44 (List.mem_cons_of_mem _ (List.mem_cons_of_mem _ (List.mem_cons_of_mem _ (List.mem_cons_of_mem _ (List.mem_cons_of_mem _ (List.mem_cons_of_mem _ (List.mem_cons_of_mem _ (List.mem_cons_of_mem _ (List.mem_cons_of_mem _ (List.mem_cons_of_mem _ (List.mem_cons_of_mem _ (List.mem_cons_self))))))))))))) rfl
theorem mW716 : Cond.instanceMethod yX9_is ∈ gWs := gWs_tab (c_gT44 (List.mem_cons_of_mem _ (List.mem_cons_of_mem _ (List.mem_cons_of_mem _ (List.mem_cons_of_mem _ (List.mem_cons_of_mem _ (List.mem_cons_of_mem _ (List.mem_cons_of_mem _ (List.mem_cons_of_mem _ (List.mem_cons_of_mem _ (List.mem_cons_of_mem _ (List.mem_cons_of_mem _ (List.mem_cons_of_mem _ (List.mem_cons_self)))))))))))))) rfl
theorem mW717 : Cond.selects RX9 yX9_is yX9_is ∈ gWs := gWs_tab (c_gT44 (List.mem_cons_of_mem _ (List.mem_cons_of_mem _ (List.mem_cons_of_mem _ (List.mem_cons_of_mem _ (List.mem_cons_of_mem _ (List.mem_cons_of_mem _ (List.mem_cons_of_mem _ (List.mem_cons_of_mem _ (List.mem_cons_of_mem _ (List.mem_cons_of_mem _ (List.mem_cons_of_mem _ (List.mem_cons_of_mem _ (List.mem_cons_of_mem _ (List.mem_cons_self))))))))))))))) rfl
theorem mW718 : Cond.code yX9_is cX9_is 6 (some .int) ∈ gWs := gWs_tab (c_gT44 (List.mem_cons_of_mem _ (List.mem_cons_of_mem _ (List.mem_cons_of_mem _ (List.mem_cons_of_mem _ (List.mem_cons_of_mem _ (List.mem_cons_of_mem _ (List.mem_cons_of_mem _ (List.mem_cons_of_mem _ (List.mem_cons_of_mem _ (List.mem_cons_of_mem _ (List.mem_cons_of_mem _ (List.mem_cons_of_mem _ (List.mem_cons_of_mem _ (List.mem_cons_of_mem _ (List.mem_cons_self)))))))))))))))) rfl
theorem mW719 : Cond.methodLink RL 60 yX9_about ∈ gWs := gWs_tab (c_gT44 (List.mem_cons_of_mem _ (List.mem_cons_of_mem _ (List.mem_cons_of_mem _ (List.mem_cons_of_mem _ (List.mem_cons_of_mem _ (List.mem_cons_of_mem _ (List.mem_cons_of_mem _ (List.mem_cons_of_mem _ (List.mem_cons_of_mem _ (List.mem_cons_of_mem _ (List.mem_cons_of_mem _ (List.mem_cons_of_mem _ (List.mem_cons_of_mem _ (List.mem_cons_of_mem _ (List.mem_cons_of_mem _ (List.mem_cons_self))))))))))))))))) rfl
theorem c_gT45 {w : Cond} (h : w ∈ gT45) : w ∈ tables_1 := t_tables_1_4 (List.mem_append_left _ h)
theorem mW720 : Cond.instanceMethod yX9_about ∈ gWs := gWs_tab (c_gT45 (List.mem_cons_self)) rfl
theorem mW721 : Cond.selects RX9 yX9_about yX9_about ∈ gWs := gWs_tab (c_gT45 (List.mem_cons_of_mem _ (List.mem_cons_self))) rfl
theorem mW722 : Cond.code yX9_about cX9_about 3 (some .int) ∈ gWs := gWs_tab (c_gT45 (List.mem_cons_of_mem _ (List.mem_cons_of_mem _ (List.mem_cons_self)))) rfl
theorem mW723 : Cond.methodLink RX9 113 yX9_balls ∈ gWs := gWs_tab (c_gT45 (List.mem_cons_of_mem _ (List.mem_cons_of_mem _ (List.mem_cons_of_mem _ (List.mem_cons_self))))) rfl
theorem mW725 : Cond.instanceMethod yX9_balls ∈ gWs := gWs_tab (c_gT45 (List.mem_cons_of_mem _ (List.mem_cons_of_mem _ (List.mem_cons_of_mem _ (List.mem_cons_of_mem _ (List.mem_cons_of_mem _ (List.mem_cons_self))))))) rfl
theorem mW726 : Cond.code yX9_balls cX9_balls 2 (some .int) ∈ gWs := gWs_tab (c_gT45 (List.mem_cons_of_mem _ (List.mem_cons_of_mem _ (List.mem_cons_of_mem _ (List.mem_cons_of_mem _ (List.mem_cons_of_mem _ (List.mem_cons_of_mem _ (List.mem_cons_self)))))))) rfl
theorem mW727 : Cond.methodLink RX9 110 yX9_isEven ∈ gWs := gWs_tab (c_gT45 (List.mem_cons_of_mem _ (List.mem_cons_of_mem _ (List.mem_cons_of_mem _ (List.mem_cons_of_mem _ (List.mem_cons_of_mem _ (List.mem_cons_of_mem _ (List.mem_cons_of_mem _ (List.mem_cons_self))))))))) rfl
theorem mW729 : Cond.instanceMethod yX9_isEven ∈ gWs := gWs_tab (c_gT45 (List.mem_cons_of_mem _ (List.mem_cons_of_mem _ (List.mem_cons_of_mem _ (List.mem_cons_of_mem _ (List.mem_cons_of_mem _ (List.mem_cons_of_mem _ (List.mem_cons_of_mem _ (List.mem_cons_of_mem _ (List.mem_cons_of_mem _ (List.mem_cons_self))))))))))) rfl
theorem mW730 : Cond.code yX9_isEven cX9_isEven 4 (some .boolean) ∈ gWs := gWs_tab (c_gT45 (List.mem_cons_of_mem _ (List.mem_cons_of_mem _ (List.mem_cons_of_mem _ (List.mem_cons_of_mem _ (List.mem_cons_of_mem _ (List.mem_cons_of_mem _ (List.mem_cons_of_mem _ (List.mem_cons_of_mem _ (List.mem_cons_of_mem _ (List.mem_cons_of_mem _ (List.mem_cons_self)))))))))))) rfl
theorem mW731 : Cond.methodLink RX9 107 yX9_addedSum ∈ gWs := gWs_tab (c_gT45 (List.mem_cons_of_mem _ (List.mem_cons_of_mem _ (List.mem_cons_of_mem _ (List.mem_cons_of_mem _ (List.mem_cons_of_mem _ (List.mem_cons_of_mem _ (List.mem_cons_of_mem _ (List.mem_cons_of_mem _ (List.mem_cons_of_mem _ (List.mem_cons_of_mem _ (List.mem_cons_of_mem _ (List.mem_cons_self))))))))))))) rfl
theorem mW733 : Cond.instanceMethod yX9_addedSum ∈ gWs := gWs_tab (c_gT45 (List.mem_cons_of_mem _ (List.mem_cons_of_mem _ (List.mem_cons_of_mem _ (List.mem_cons_of_mem _ (List.mem_cons_of_mem _ (List.mem_cons_of_mem _ (List.mem_cons_of_mem _ (List.mem_cons_of_mem _ (List.mem_cons_of_mem _ (List.mem_cons_of_mem _ (List.mem_cons_of_mem _ (List.mem_cons_of_mem _ (List.mem_cons_of_mem _ (List.mem_cons_self))))))))))))))) rfl
theorem mW734 : Cond.code yX9_addedSum cX9_addedSum 5 (some .int) ∈ gWs := gWs_tab (c_gT45 (List.mem_cons_of_mem _ (List.mem_cons_of_mem _ (List.mem_cons_of_mem _ (List.mem_cons_of_mem _ (List.mem_cons_of_mem _ (List.mem_cons_of_mem _ (List.mem_cons_of_mem _ (List.mem_cons_of_mem _ (List.mem_cons_of_mem _ (List.mem_cons_of_mem _ (List.mem_cons_of_mem _ (List.mem_cons_of_mem _ (List.mem_cons_of_mem _ (List.mem_cons_of_mem _ (List.mem_cons_self)))))))))))))))) rfl
theorem mW735 : Cond.methodLink RX9 117 yX9_isLike ∈ gWs := gWs_tab (c_gT45 (List.mem_cons_of_mem _ (List.mem_cons_of_mem _ (List.mem_cons_of_mem _ (List.mem_cons_of_mem _ (List.mem_cons_of_mem _ (List.mem_cons_of_mem _ (List.mem_cons_of_mem _ (List.mem_cons_of_mem _ (List.mem_cons_of_mem _ (List.mem_cons_of_mem _ (List.mem_cons_of_mem _ (List.mem_cons_of_mem _ (List.mem_cons_of_mem _ (List.mem_cons_of_mem _ (List.mem_cons_of_mem _ (List.mem_cons_self))))))))))))))))) rfl
theorem c_gT46 {w : Cond} (h : w ∈ gT46) : w ∈ tables_1 := t_tables_1_4 (List.mem_append_right _ (List.mem_append_left _ h))
theorem mW737 : Cond.instanceMethod yX9_isLike ∈ gWs := gWs_tab (c_gT46 (List.mem_cons_of_mem _ (List.mem_cons_self))) rfl
theorem mW738 : Cond.code yX9_isLike cX9_isLike 5 (some .boolean) ∈ gWs := gWs_tab (c_gT46 (List.mem_cons_of_mem _ (List.mem_cons_of_mem _ (List.mem_cons_self)))) rfl
theorem mW739 : Cond.methodLink RL 64 yX9_added ∈ gWs := gWs_tab (c_gT46 (List.mem_cons_of_mem _ (List.mem_cons_of_mem _ (List.mem_cons_of_mem _ (List.mem_cons_self))))) rfl
theorem mW740 : Cond.instanceMethod yX9_added ∈ gWs := gWs_tab (c_gT46 (List.mem_cons_of_mem _ (List.mem_cons_of_mem _ (List.mem_cons_of_mem _ (List.mem_cons_of_mem _ (List.mem_cons_self)))))) rfl
theorem mW741 : Cond.selects RX9 yX9_added yX9_added ∈ gWs := gWs_tab (c_gT46 (List.mem_cons_of_mem _ (List.mem_cons_of_mem _ (List.mem_cons_of_mem _ (List.mem_cons_of_mem _ (List.mem_cons_of_mem _ (List.mem_cons_self))))))) rfl
theorem mW742 : Cond.code yX9_added cX9_added 4 (some .int) ∈ gWs := gWs_tab (c_gT46 (List.mem_cons_of_mem _ (List.mem_cons_of_mem _ (List.mem_cons_of_mem _ (List.mem_cons_of_mem _ (List.mem_cons_of_mem _ (List.mem_cons_of_mem _ (List.mem_cons_self)))))))) rfl
theorem mW743 : Cond.methodLink RL 68 yX9_draw ∈ gWs := gWs_tab (c_gT46 (List.mem_cons_of_mem _ (List.mem_cons_of_mem _ (List.mem_cons_of_mem _ (List.mem_cons_of_mem _ (List.mem_cons_of_mem _ (List.mem_cons_of_mem _ (List.mem_cons_of_mem _ (List.mem_cons_self))))))))) rfl
theorem mW744 : Cond.instanceMethod yX9_draw ∈ gWs := gWs_tab (c_gT46 (List.mem_cons_of_mem _ (List.mem_cons_of_mem _ (List.mem_cons_of_mem _ (List.mem_cons_of_mem _ (List.mem_cons_of_mem _ (List.mem_cons_of_mem _ (List.mem_cons_of_mem _ (List.mem_cons_of_mem _ (List.mem_cons_self)))))))))) rfl
theorem mW745 : Cond.selects RX9 yX9_draw yX9_draw ∈ gWs := gWs_tab (c_gT46 (List.mem_cons_of_mem _ (List.mem_cons_of_mem _ (List.mem_cons_of_mem _ (List.mem_cons_of_mem _ (List.mem_cons_of_mem _ (List.mem_cons_of_mem _ (List.mem_cons_of_mem _ (List.mem_cons_of_mem _ (List.mem_cons_of_mem _ (List.mem_cons_self))))))))))) rfl
theorem mW746 : Cond.code yX9_draw cX9_draw 3 (some .int) ∈ gWs := gWs_tab (c_gT46 (List.mem_cons_of_mem _ (List.mem_cons_of_mem _ (List.mem_cons_of_mem _ (List.mem_cons_of_mem _ (List.mem_cons_of_mem _ (List.mem_cons_of_mem _ (List.mem_cons_of_mem _ (List.mem_cons_of_mem _ (List.mem_cons_of_mem _ (List.mem_cons_of_mem _ (List.mem_cons_self)))))))))))) rfl
theorem mW747 : Cond.methodLink RX9 120 yX9_canDraw ∈ gWs := gWs_tab (c_gT46 (List.mem_cons_of_mem _ (List.mem_cons_of_mem _ (List.mem_cons_of_mem _ (List.mem_cons_of_mem _ (List.mem_cons_of_mem _ (List.mem_cons_of_mem _ (List.mem_cons_of_mem _ (List.mem_cons_of_mem _ (List.mem_cons_of_mem _ (List.mem_cons_of_mem _ (List.mem_cons_of_mem _ (List.mem_cons_self))))))))))))) rfl
theorem mW749 : Cond.instanceMethod yX9_canDraw ∈ gWs := gWs_tab (c_gT46 (List.mem_cons_of_mem _ (List.mem_cons_of_mem _ (List.mem_cons_of_mem _ (List.mem_cons_of_mem _ (List.mem_cons_of_mem _ (List.mem_cons_of_mem _ (List.mem_cons_of_mem _ (List.mem_cons_of_mem _ (List.mem_cons_of_mem _ (List.mem_cons_of_mem _ (List.mem_cons_of_mem _ (List.mem_cons_of_mem _ (List.mem_cons_of_mem _ (List.mem_cons_self))))))))))))))) rfl
theorem mW750 : Cond.code yX9_canDraw cX9_canDraw 5 (some .boolean) ∈ gWs := gWs_tab (c_gT46 (List.mem_cons_of_mem _ (List.mem_cons_of_mem _ (List.mem_cons_of_mem _ (List.mem_cons_of_mem _ (List.mem_cons_of_mem _ (List.mem_cons_of_mem _ (List.mem_cons_of_mem _ (List.mem_cons_of_mem _ (List.mem_cons_of_mem _ (List.mem_cons_of_mem _ (List.mem_cons_of_mem _ (List.mem_cons_of_mem _ (List.mem_cons_of_mem _ (List.mem_cons_of_mem _ (List.mem_cons_self)))))))))))))))) rfl
theorem mW751 : Cond.methodLink RX9 123 yX9_draws ∈ gWs := gWs_tab (c_gT46 (List.mem_cons_of_mem _ (List.mem_cons_of_mem _ (List.mem_cons_of_mem _ (List.mem_cons_of_mem _ (List.mem_cons_of_mem _ (List.mem_cons_of_mem _ (List.mem_cons_of_mem _ (List.mem_cons_of_mem _ (List.mem_cons_of_mem _ (List.mem_cons_of_mem _ (List.mem_cons_of_mem _ (List.mem_cons_of_mem _ (List.mem_cons_of_mem _ (List.mem_cons_of_mem _ (List.mem_cons_of_mem _ (List.mem_cons_self))))))))))))))))) rfl
theorem c_gT47 {w : Cond} (h : w ∈ gT47) : w ∈ tables_1 := t_tables_1_4 (List.mem_append_right _ (List.mem_append_right _ (List.mem_append_left _ h)))
theorem mW753 : Cond.instanceMethod yX9_draws ∈ gWs := gWs_tab (c_gT47 (List.mem_cons_of_mem _ (List.mem_cons_self))) rfl
theorem mW754 : Cond.code yX9_draws cX9_draws 4 none ∈ gWs := gWs_tab (c_gT47 (List.mem_cons_of_mem _ (List.mem_cons_of_mem _ (List.mem_cons_self)))) rfl
theorem mW755 : Cond.methodLink RL 72 yX9_seed ∈ gWs := gWs_tab (c_gT47 (List.mem_cons_of_mem _ (List.mem_cons_of_mem _ (List.mem_cons_of_mem _ (List.mem_cons_self))))) rfl
theorem mW756 : Cond.instanceMethod yX9_seed ∈ gWs := gWs_tab (c_gT47 (List.mem_cons_of_mem _ (List.mem_cons_of_mem _ (List.mem_cons_of_mem _ (List.mem_cons_of_mem _ (List.mem_cons_self)))))) rfl
theorem mW757 : Cond.selects RX9 yX9_seed yX9_seed ∈ gWs := gWs_tab (c_gT47 (List.mem_cons_of_mem _ (List.mem_cons_of_mem _ (List.mem_cons_of_mem _ (List.mem_cons_of_mem _ (List.mem_cons_of_mem _ (List.mem_cons_self))))))) rfl
theorem mW758 : Cond.code yX9_seed cX9_seed 2 (some .int) ∈ gWs := gWs_tab (c_gT47 (List.mem_cons_of_mem _ (List.mem_cons_of_mem _ (List.mem_cons_of_mem _ (List.mem_cons_of_mem _ (List.mem_cons_of_mem _ (List.mem_cons_of_mem _ (List.mem_cons_self)))))))) rfl
theorem mW759 : Cond.constantLong RX9 127 (2147483646) ∈ gWs := gWs_tab (c_gT47 (List.mem_cons_of_mem _ (List.mem_cons_of_mem _ (List.mem_cons_of_mem _ (List.mem_cons_of_mem _ (List.mem_cons_of_mem _ (List.mem_cons_of_mem _ (List.mem_cons_of_mem _ (List.mem_cons_self))))))))) rfl
theorem mW760 : Cond.methodLink RL 76 yX9_drawn ∈ gWs := gWs_tab (c_gT47 (List.mem_cons_of_mem _ (List.mem_cons_of_mem _ (List.mem_cons_of_mem _ (List.mem_cons_of_mem _ (List.mem_cons_of_mem _ (List.mem_cons_of_mem _ (List.mem_cons_of_mem _ (List.mem_cons_of_mem _ (List.mem_cons_self)))))))))) rfl
theorem mW761 : Cond.instanceMethod yX9_drawn ∈ gWs := gWs_tab (c_gT47 (List.mem_cons_of_mem _ (List.mem_cons_of_mem _ (List.mem_cons_of_mem _ (List.mem_cons_of_mem _ (List.mem_cons_of_mem _ (List.mem_cons_of_mem _ (List.mem_cons_of_mem _ (List.mem_cons_of_mem _ (List.mem_cons_of_mem _ (List.mem_cons_self))))))))))) rfl
theorem mW762 : Cond.selects RX9 yX9_drawn yX9_drawn ∈ gWs := gWs_tab (c_gT47 (List.mem_cons_of_mem _ (List.mem_cons_of_mem _ (List.mem_cons_of_mem _ (List.mem_cons_of_mem _ (List.mem_cons_of_mem _ (List.mem_cons_of_mem _ (List.mem_cons_of_mem _ (List.mem_cons_of_mem _ (List.mem_cons_of_mem _ (List.mem_cons_of_mem _ (List.mem_cons_self)))))))))))) rfl
theorem mW763 : Cond.code yX9_drawn cX9_drawn 2 (some .int) ∈ gWs := gWs_tab (c_gT47 (List.mem_cons_of_mem _ (List.mem_cons_of_mem _ (List.mem_cons_of_mem _ (List.mem_cons_of_mem _ (List.mem_cons_of_mem _ (List.mem_cons_of_mem _ (List.mem_cons_of_mem _ (List.mem_cons_of_mem _ (List.mem_cons_of_mem _ (List.mem_cons_of_mem _ (List.mem_cons_of_mem _ (List.mem_cons_self))))))))))))) rfl
theorem mW764 : Cond.methodLink RX9 141 yX9_looks ∈ gWs := gWs_tab (c_gT47 (List.mem_cons_of_mem _ (List.mem_cons_of_mem _ (List.mem_cons_of_mem _ (List.mem_cons_of_mem _ (List.mem_cons_of_mem _ (List.mem_cons_of_mem _ (List.mem_cons_of_mem _ (List.mem_cons_of_mem _ (List.mem_cons_of_mem _ (List.mem_cons_of_mem _ (List.mem_cons_of_mem _ (List.mem_cons_of_mem _ (List.mem_cons_self)))))))))))))) rfl
theorem mW766 : Cond.instanceMethod yX9_looks ∈ gWs := gWs_tab (c_gT47 (List.mem_cons_of_mem _ (List.mem_cons_of_mem _ (List.mem_cons_of_mem _ (List.mem_cons_of_mem _ (List.mem_cons_of_mem _ (List.mem_cons_of_mem _ (List.mem_cons_of_mem _ (List.mem_cons_of_mem _ (List.mem_cons_of_mem _ (List.mem_cons_of_mem _ (List.mem_cons_of_mem _ (List.mem_cons_of_mem _ (List.mem_cons_of_mem _ (List.mem_cons_of_mem _ (List.mem_cons_self)))))))))))))))) rfl
theorem mW767 : Cond.code yX9_looks cX9_looks 7 (some .boolean) ∈ gWs := gWs_tab (c_gT47 (List.mem_cons_of_mem _ (List.mem_cons_of_mem _ (List.mem_cons_of_mem _ (List.mem_cons_of_mem _ (List.mem_cons_of_mem _ (List.mem_cons_of_mem _ (List.mem_cons_of_mem _ (List.mem_cons_of_mem _ (List.mem_cons_of_mem _ (List.mem_cons_of_mem _ (List.mem_cons_of_mem _ (List.mem_cons_of_mem _ (List.mem_cons_of_mem _ (List.mem_cons_of_mem _ (List.mem_cons_of_mem _ (List.mem_cons_self))))))))))))))))) rfl
theorem c_gT48 {w : Cond} (h : w ∈ gT48) : w ∈ tables_1 := t_tables_1_4 (List.mem_append_right _ (List.mem_append_right _ (List.mem_append_right _ (List.mem_append_left _ h))))
theorem mW768 : Cond.constantLong RX9 135 (48271) ∈ gWs := gWs_tab (c_gT48 (List.mem_cons_self)) rfl
theorem mW769 : Cond.constantLong RX9 137 (11) ∈ gWs := gWs_tab (c_gT48 (List.mem_cons_of_mem _ (List.mem_cons_self))) rfl
theorem mW770 : Cond.constantLong RX9 139 (2147483647) ∈ gWs := gWs_tab (c_gT48 (List.mem_cons_of_mem _ (List.mem_cons_of_mem _ (List.mem_cons_self)))) rfl
theorem mW771 : Cond.methodLink RX9 144 yX9_doesDraws ∈ gWs := gWs_tab (c_gT48 (List.mem_cons_of_mem _ (List.mem_cons_of_mem _ (List.mem_cons_of_mem _ (List.mem_cons_self))))) rfl
theorem mW773 : Cond.instanceMethod yX9_doesDraws ∈ gWs := gWs_tab (c_gT48 (List.mem_cons_of_mem _ (List.mem_cons_of_mem _ (List.mem_cons_of_mem _ (List.mem_cons_of_mem _ (List.mem_cons_of_mem _ (List.mem_cons_self))))))) rfl
theorem mW774 : Cond.code yX9_doesDraws cX9_doesDraws 3 (some .int) ∈ gWs := gWs_tab (c_gT48 (List.mem_cons_of_mem _ (List.mem_cons_of_mem _ (List.mem_cons_of_mem _ (List.mem_cons_of_mem _ (List.mem_cons_of_mem _ (List.mem_cons_of_mem _ (List.mem_cons_self)))))))) rfl
theorem mW775 : Cond.methodLink RL 80 yX9_shake ∈ gWs := gWs_tab (c_gT48 (List.mem_cons_of_mem _ (List.mem_cons_of_mem _ (List.mem_cons_of_mem _ (List.mem_cons_of_mem _ (List.mem_cons_of_mem _ (List.mem_cons_of_mem _ (List.mem_cons_of_mem _ (List.mem_cons_self))))))))) rfl
theorem mW776 : Cond.instanceMethod yX9_shake ∈ gWs := gWs_tab (c_gT48 (List.mem_cons_of_mem _ (List.mem_cons_of_mem _ (List.mem_cons_of_mem _ (List.mem_cons_of_mem _ (List.mem_cons_of_mem _ (List.mem_cons_of_mem _ (List.mem_cons_of_mem _ (List.mem_cons_of_mem _ (List.mem_cons_self)))))))))) rfl
theorem mW777 : Cond.selects RX9 yX9_shake yX9_shake ∈ gWs := gWs_tab (c_gT48 (List.mem_cons_of_mem _ (List.mem_cons_of_mem _ (List.mem_cons_of_mem _ (List.mem_cons_of_mem _ (List.mem_cons_of_mem _ (List.mem_cons_of_mem _ (List.mem_cons_of_mem _ (List.mem_cons_of_mem _ (List.mem_cons_of_mem _ (List.mem_cons_self))))))))))) rfl
theorem mW778 : Cond.code yX9_shake cX9_shake 5 (some .int) ∈ gWs := gWs_tab (c_gT48 (List.mem_cons_of_mem _ (List.mem_cons_of_mem _ (List.mem_cons_of_mem _ (List.mem_cons_of_mem _ (List.mem_cons_of_mem _ (List.mem_cons_of_mem _ (List.mem_cons_of_mem _ (List.mem_cons_of_mem _ (List.mem_cons_of_mem _ (List.mem_cons_of_mem _ (List.mem_cons_self)))))))))))) rfl
theorem mW779 : Cond.constantLong RX9 148 (50) ∈ gWs := gWs_tab (c_gT48 (List.mem_cons_of_mem _ (List.mem_cons_of_mem _ (List.mem_cons_of_mem _ (List.mem_cons_of_mem _ (List.mem_cons_of_mem _ (List.mem_cons_of_mem _ (List.mem_cons_of_mem _ (List.mem_cons_of_mem _ (List.mem_cons_of_mem _ (List.mem_cons_of_mem _ (List.mem_cons_of_mem _ (List.mem_cons_self))))))))))))) rfl
theorem mW780 : Cond.methodLink RL 85 yX9_undo ∈ gWs := gWs_tab (c_gT48 (List.mem_cons_of_mem _ (List.mem_cons_of_mem _ (List.mem_cons_of_mem _ (List.mem_cons_of_mem _ (List.mem_cons_of_mem _ (List.mem_cons_of_mem _ (List.mem_cons_of_mem _ (List.mem_cons_of_mem _ (List.mem_cons_of_mem _ (List.mem_cons_of_mem _ (List.mem_cons_of_mem _ (List.mem_cons_of_mem _ (List.mem_cons_self)))))))))))))) rfl
theorem mW781 : Cond.instanceMethod yX9_undo ∈ gWs := gWs_tab (c_gT48 (List.mem_cons_of_mem _ (List.mem_cons_of_mem _ (List.mem_cons_of_mem _ (List.mem_cons_of_mem _ (List.mem_cons_of_mem _ (List.mem_cons_of_mem _ (List.mem_cons_of_mem _ (List.mem_cons_of_mem _ (List.mem_cons_of_mem _ (List.mem_cons_of_mem _ (List.mem_cons_of_mem _ (List.mem_cons_of_mem _ (List.mem_cons_of_mem _ (List.mem_cons_self))))))))))))))) rfl
theorem mW782 : Cond.selects RX9 yX9_undo yX9_undo ∈ gWs := gWs_tab (c_gT48 (List.mem_cons_of_mem _ (List.mem_cons_of_mem _ (List.mem_cons_of_mem _ (List.mem_cons_of_mem _ (List.mem_cons_of_mem _ (List.mem_cons_of_mem _ (List.mem_cons_of_mem _ (List.mem_cons_of_mem _ (List.mem_cons_of_mem _ (List.mem_cons_of_mem _ (List.mem_cons_of_mem _ (List.mem_cons_of_mem _ (List.mem_cons_of_mem _ (List.mem_cons_of_mem _ (List.mem_cons_self)))))))))))))))) rfl
theorem mW783 : Cond.code yX9_undo cX9_undo 2 (some .int) ∈ gWs := gWs_tab (c_gT48 (List.mem_cons_of_mem _ (List.mem_cons_of_mem _ (List.mem_cons_of_mem _ (List.mem_cons_of_mem _ (List.mem_cons_of_mem _ (List.mem_cons_of_mem _ (List.mem_cons_of_mem _ (List.mem_cons_of_mem _ (List.mem_cons_of_mem _ (List.mem_cons_of_mem _ (List.mem_cons_of_mem _ (List.mem_cons_of_mem _ (List.mem_cons_of_mem _ (List.mem_cons_of_mem _ (List.mem_cons_of_mem _ (List.mem_cons_self))))))))))))))))) rfl
theorem c_gT49 {w : Cond} (h : w ∈ gT49) : w ∈ tables_1 := t_tables_1_4 (List.mem_append_right _ (List.mem_append_right _ (List.mem_append_right _ (List.mem_append_right _ (List.mem_append_left _ h)))))
theorem mW784 : Cond.methodLink RL 122 yX9_part ∈ gWs := gWs_tab (c_gT49 (List.mem_cons_self)) rfl
theorem mW785 : Cond.instanceMethod yX9_part ∈ gWs := gWs_tab (c_gT49 (List.mem_cons_of_mem _ (List.mem_cons_self))) rfl
theorem mW786 : Cond.selects RX9 yX9_part yX9_part ∈ gWs := gWs_tab (c_gT49 (List.mem_cons_of_mem _ (List.mem_cons_of_mem _ (List.mem_cons_self)))) rfl
theorem mW787 : Cond.code yX9_part cX9_part 2 (some .long) ∈ gWs := gWs_tab (c_gT49 (List.mem_cons_of_mem _ (List.mem_cons_of_mem _ (List.mem_cons_of_mem _ (List.mem_cons_self))))) rfl
theorem mW788 : Cond.methodLink RL 89 yX9_chance ∈ gWs := gWs_tab (c_gT49 (List.mem_cons_of_mem _ (List.mem_cons_of_mem _ (List.mem_cons_of_mem _ (List.mem_cons_of_mem _ (List.mem_cons_self)))))) rfl
theorem mW789 : Cond.instanceMethod yX9_chance ∈ gWs := gWs_tab (c_gT49 (List.mem_cons_of_mem _ (List.mem_cons_of_mem _ (List.mem_cons_of_mem _ (List.mem_cons_of_mem _ (List.mem_cons_of_mem _ (List.mem_cons_self))))))) rfl
theorem mW790 : Cond.selects RX9 yX9_chance yX9_chance ∈ gWs := gWs_tab (c_gT49 (List.mem_cons_of_mem _ (List.mem_cons_of_mem _ (List.mem_cons_of_mem _ (List.mem_cons_of_mem _ (List.mem_cons_of_mem _ (List.mem_cons_of_mem _ (List.mem_cons_self)))))))) rfl
theorem mW791 : Cond.code yX9_chance cX9_chance 5 (some .int) ∈ gWs := gWs_tab (c_gT49 (List.mem_cons_of_mem _ (List.mem_cons_of_mem _ (List.mem_cons_of_mem _ (List.mem_cons_of_mem _ (List.mem_cons_of_mem _ (List.mem_cons_of_mem _ (List.mem_cons_of_mem _ (List.mem_cons_self))))))))) rfl
theorem mW792 : Cond.constantLong RX9 168 (12) ∈ gWs := gWs_tab (c_gT49 (List.mem_cons_of_mem _ (List.mem_cons_of_mem _ (List.mem_cons_of_mem _ (List.mem_cons_of_mem _ (List.mem_cons_of_mem _ (List.mem_cons_of_mem _ (List.mem_cons_of_mem _ (List.mem_cons_of_mem _ (List.mem_cons_self)))))))))) rfl
theorem mW793 : Cond.methodLink RX9 170 yX9_follows ∈ gWs := gWs_tab (c_gT49 (List.mem_cons_of_mem _ (List.mem_cons_of_mem _ (List.mem_cons_of_mem _ (List.mem_cons_of_mem _ (List.mem_cons_of_mem _ (List.mem_cons_of_mem _ (List.mem_cons_of_mem _ (List.mem_cons_of_mem _ (List.mem_cons_of_mem _ (List.mem_cons_self))))))))))) rfl
theorem mW795 : Cond.instanceMethod yX9_follows ∈ gWs := gWs_tab (c_gT49 (List.mem_cons_of_mem _ (List.mem_cons_of_mem _ (List.mem_cons_of_mem _ (List.mem_cons_of_mem _ (List.mem_cons_of_mem _ (List.mem_cons_of_mem _ (List.mem_cons_of_mem _ (List.mem_cons_of_mem _ (List.mem_cons_of_mem _ (List.mem_cons_of_mem _ (List.mem_cons_of_mem _ (List.mem_cons_self))))))))))))) rfl
theorem mW796 : Cond.code yX9_follows cX9_follows 18 (some .boolean) ∈ gWs := gWs_tab (c_gT49 (List.mem_cons_of_mem _ (List.mem_cons_of_mem _ (List.mem_cons_of_mem _ (List.mem_cons_of_mem _ (List.mem_cons_of_mem _ (List.mem_cons_of_mem _ (List.mem_cons_of_mem _ (List.mem_cons_of_mem _ (List.mem_cons_of_mem _ (List.mem_cons_of_mem _ (List.mem_cons_of_mem _ (List.mem_cons_of_mem _ (List.mem_cons_self)))))))))))))) rfl
theorem mW797 : Cond.methodLink RX9 150 yX9_common ∈ gWs := gWs_tab (c_gT49 (List.mem_cons_of_mem _ (List.mem_cons_of_mem _ (List.mem_cons_of_mem _ (List.mem_cons_of_mem _ (List.mem_cons_of_mem _ (List.mem_cons_of_mem _ (List.mem_cons_of_mem _ (List.mem_cons_of_mem _ (List.mem_cons_of_mem _ (List.mem_cons_of_mem _ (List.mem_cons_of_mem _ (List.mem_cons_of_mem _ (List.mem_cons_of_mem _ (List.mem_cons_self))))))))))))))) rfl
theorem mW798 : Cond.static yX9_common ∈ gWs := gWs_tab (c_gT49 (List.mem_cons_of_mem _ (List.mem_cons_of_mem _ (List.mem_cons_of_mem _ (List.mem_cons_of_mem _ (List.mem_cons_of_mem _ (List.mem_cons_of_mem _ (List.mem_cons_of_mem _ (List.mem_cons_of_mem _ (List.mem_cons_of_mem _ (List.mem_cons_of_mem _ (List.mem_cons_of_mem _ (List.mem_cons_of_mem _ (List.mem_cons_of_mem _ (List.mem_cons_of_mem _ (List.mem_cons_self)))))))))))))))) rfl
theorem mW799 : Cond.code yX9_common cX9_common 10 (some .long) ∈ gWs := gWs_tab (c_gT49 (List.mem_cons_of_mem _ (List.mem_cons_of_mem _ (List.mem_cons_of_mem _ (List.mem_cons_of_mem _ (List.mem_cons_of_mem _ (List.mem_cons_of_mem _ (List.mem_cons_of_mem _ (List.mem_cons_of_mem _ (List.mem_cons_of_mem _ (List.mem_cons_of_mem _ (List.mem_cons_of_mem _ (List.mem_cons_of_mem _ (List.mem_cons_of_mem _ (List.mem_cons_of_mem _ (List.mem_cons_of_mem _ (List.mem_cons_self))))))))))))))))) rfl
theorem c_gT50 {w : Cond} (h : w ∈ gT50) : w ∈ tables_1 := t_tables_1_4 (List.mem_append_right _ (List.mem_append_right _ (List.mem_append_right _ (List.mem_append_right _ (List.mem_append_right _ (List.mem_append_left _ h))))))
theorem mW800 : Cond.constantLong RX9 166 (1000000000000000000) ∈ gWs := gWs_tab (c_gT50 (List.mem_cons_self)) rfl
theorem mW801 : Cond.methodLink RX9 174 yX9_tells ∈ gWs := gWs_tab (c_gT50 (List.mem_cons_of_mem _ (List.mem_cons_self))) rfl
theorem mW803 : Cond.instanceMethod yX9_tells ∈ gWs := gWs_tab (c_gT50 (List.mem_cons_of_mem _ (List.mem_cons_of_mem _ (List.mem_cons_of_mem _ (List.mem_cons_self))))) rfl
theorem mW804 : Cond.code yX9_tells cX9_tells 7 (some .int) ∈ gWs := gWs_tab (c_gT50 (List.mem_cons_of_mem _ (List.mem_cons_of_mem _ (List.mem_cons_of_mem _ (List.mem_cons_of_mem _ (List.mem_cons_self)))))) rfl
theorem mW805 : Cond.methodLink RL 93 yX9_times ∈ gWs := gWs_tab (c_gT50 (List.mem_cons_of_mem _ (List.mem_cons_of_mem _ (List.mem_cons_of_mem _ (List.mem_cons_of_mem _ (List.mem_cons_of_mem _ (List.mem_cons_self))))))) rfl
theorem mW806 : Cond.instanceMethod yX9_times ∈ gWs := gWs_tab (c_gT50 (List.mem_cons_of_mem _ (List.mem_cons_of_mem _ (List.mem_cons_of_mem _ (List.mem_cons_of_mem _ (List.mem_cons_of_mem _ (List.mem_cons_of_mem _ (List.mem_cons_self)))))))) rfl
theorem mW807 : Cond.selects RX9 yX9_times yX9_times ∈ gWs := gWs_tab (c_gT50 (List.mem_cons_of_mem _ (List.mem_cons_of_mem _ (List.mem_cons_of_mem _ (List.mem_cons_of_mem _ (List.mem_cons_of_mem _ (List.mem_cons_of_mem _ (List.mem_cons_of_mem _ (List.mem_cons_self))))))))) rfl
theorem mW808 : Cond.code yX9_times cX9_times 9 (some .int) ∈ gWs := gWs_tab (c_gT50 (List.mem_cons_of_mem _ (List.mem_cons_of_mem _ (List.mem_cons_of_mem _ (List.mem_cons_of_mem _ (List.mem_cons_of_mem _ (List.mem_cons_of_mem _ (List.mem_cons_of_mem _ (List.mem_cons_of_mem _ (List.mem_cons_self)))))))))) rfl
theorem mW809 : Cond.methodLink RX9 200 yX9_isAsked ∈ gWs := gWs_tab (c_gT50 (List.mem_cons_of_mem _ (List.mem_cons_of_mem _ (List.mem_cons_of_mem _ (List.mem_cons_of_mem _ (List.mem_cons_of_mem _ (List.mem_cons_of_mem _ (List.mem_cons_of_mem _ (List.mem_cons_of_mem _ (List.mem_cons_of_mem _ (List.mem_cons_self))))))))))) rfl
theorem mW811 : Cond.instanceMethod yX9_isAsked ∈ gWs := gWs_tab (c_gT50 (List.mem_cons_of_mem _ (List.mem_cons_of_mem _ (List.mem_cons_of_mem _ (List.mem_cons_of_mem _ (List.mem_cons_of_mem _ (List.mem_cons_of_mem _ (List.mem_cons_of_mem _ (List.mem_cons_of_mem _ (List.mem_cons_of_mem _ (List.mem_cons_of_mem _ (List.mem_cons_of_mem _ (List.mem_cons_self))))))))))))) rfl
theorem mW812 : Cond.code yX9_isAsked cX9_isAsked 3 (some .boolean) ∈ gWs := gWs_tab (c_gT50 (List.mem_cons_of_mem _ (List.mem_cons_of_mem _ (List.mem_cons_of_mem _ (List.mem_cons_of_mem _ (List.mem_cons_of_mem _ (List.mem_cons_of_mem _ (List.mem_cons_of_mem _ (List.mem_cons_of_mem _ (List.mem_cons_of_mem _ (List.mem_cons_of_mem _ (List.mem_cons_of_mem _ (List.mem_cons_of_mem _ (List.mem_cons_self)))))))))))))) rfl
theorem mW813 : Cond.methodLink RX9 203 yX9_evenFault ∈ gWs := gWs_tab (c_gT50 (List.mem_cons_of_mem _ (List.mem_cons_of_mem _ (List.mem_cons_of_mem _ (List.mem_cons_of_mem _ (List.mem_cons_of_mem _ (List.mem_cons_of_mem _ (List.mem_cons_of_mem _ (List.mem_cons_of_mem _ (List.mem_cons_of_mem _ (List.mem_cons_of_mem _ (List.mem_cons_of_mem _ (List.mem_cons_of_mem _ (List.mem_cons_of_mem _ (List.mem_cons_self))))))))))))))) rfl
theorem mW815 : Cond.instanceMethod yX9_evenFault ∈ gWs := gWs_tab (c_gT50 (List.mem_cons_of_mem _ (List.mem_cons_of_mem _ (List.mem_cons_of_mem _ (List.mem_cons_of_mem _ (List.mem_cons_of_mem _ (List.mem_cons_of_mem _ (List.mem_cons_of_mem _ (List.mem_cons_of_mem _ (List.mem_cons_of_mem _ (List.mem_cons_of_mem _ (List.mem_cons_of_mem _ (List.mem_cons_of_mem _ (List.mem_cons_of_mem _ (List.mem_cons_of_mem _ (List.mem_cons_of_mem _ (List.mem_cons_self))))))))))))))))) rfl
theorem c_gT51 {w : Cond} (h : w ∈ gT51) : w ∈ tables_1 := t_tables_1_4 (List.mem_append_right _ (List.mem_append_right _ (List.mem_append_right _ (List.mem_append_right _ (List.mem_append_right _ (List.mem_append_right _ (List.mem_append_left _ h)))))))
theorem mW816 : Cond.code yX9_evenFault cX9_evenFault 6 (some .int) ∈ gWs := gWs_tab (c_gT51 (List.mem_cons_self)) rfl
theorem mW817 : Cond.constantLong RX9 181 (10000000000000000) ∈ gWs := gWs_tab (c_gT51 (List.mem_cons_of_mem _ (List.mem_cons_self))) rfl
theorem mW818 : Cond.methodLink RX9 206 yX9_goes ∈ gWs := gWs_tab (c_gT51 (List.mem_cons_of_mem _ (List.mem_cons_of_mem _ (List.mem_cons_self)))) rfl
theorem mW820 : Cond.instanceMethod yX9_goes ∈ gWs := gWs_tab (c_gT51 (List.mem_cons_of_mem _ (List.mem_cons_of_mem _ (List.mem_cons_of_mem _ (List.mem_cons_of_mem _ (List.mem_cons_self)))))) rfl
theorem mW821 : Cond.code yX9_goes cX9_goes 13 none ∈ gWs := gWs_tab (c_gT51 (List.mem_cons_of_mem _ (List.mem_cons_of_mem _ (List.mem_cons_of_mem _ (List.mem_cons_of_mem _ (List.mem_cons_of_mem _ (List.mem_cons_self))))))) rfl
theorem mW822 : Cond.methodLink RX9 186 yX9_at ∈ gWs := gWs_tab (c_gT51 (List.mem_cons_of_mem _ (List.mem_cons_of_mem _ (List.mem_cons_of_mem _ (List.mem_cons_of_mem _ (List.mem_cons_of_mem _ (List.mem_cons_of_mem _ (List.mem_cons_self)))))))) rfl
theorem mW823 : Cond.static yX9_at ∈ gWs := gWs_tab (c_gT51 (List.mem_cons_of_mem _ (List.mem_cons_of_mem _ (List.mem_cons_of_mem _ (List.mem_cons_of_mem _ (List.mem_cons_of_mem _ (List.mem_cons_of_mem _ (List.mem_cons_of_mem _ (List.mem_cons_self))))))))) rfl
theorem mW824 : Cond.code yX9_at cX9_at 2 (some .int) ∈ gWs := gWs_tab (c_gT51 (List.mem_cons_of_mem _ (List.mem_cons_of_mem _ (List.mem_cons_of_mem _ (List.mem_cons_of_mem _ (List.mem_cons_of_mem _ (List.mem_cons_of_mem _ (List.mem_cons_of_mem _ (List.mem_cons_of_mem _ (List.mem_cons_self)))))))))) rfl
theorem mW825 : Cond.methodLink RX9 189 yX9_looksAt ∈ gWs := gWs_tab (c_gT51 (List.mem_cons_of_mem _ (List.mem_cons_of_mem _ (List.mem_cons_of_mem _ (List.mem_cons_of_mem _ (List.mem_cons_of_mem _ (List.mem_cons_of_mem _ (List.mem_cons_of_mem _ (List.mem_cons_of_mem _ (List.mem_cons_of_mem _ (List.mem_cons_self))))))))))) rfl
theorem mW827 : Cond.instanceMethod yX9_looksAt ∈ gWs := gWs_tab (c_gT51 (List.mem_cons_of_mem _ (List.mem_cons_of_mem _ (List.mem_cons_of_mem _ (List.mem_cons_of_mem _ (List.mem_cons_of_mem _ (List.mem_cons_of_mem _ (List.mem_cons_of_mem _ (List.mem_cons_of_mem _ (List.mem_cons_of_mem _ (List.mem_cons_of_mem _ (List.mem_cons_of_mem _ (List.mem_cons_self))))))))))))) rfl
theorem mW828 : Cond.code yX9_looksAt cX9_looksAt 6 none ∈ gWs := gWs_tab (c_gT51 (List.mem_cons_of_mem _ (List.mem_cons_of_mem _ (List.mem_cons_of_mem _ (List.mem_cons_of_mem _ (List.mem_cons_of_mem _ (List.mem_cons_of_mem _ (List.mem_cons_of_mem _ (List.mem_cons_of_mem _ (List.mem_cons_of_mem _ (List.mem_cons_of_mem _ (List.mem_cons_of_mem _ (List.mem_cons_of_mem _ (List.mem_cons_self)))))))))))))) rfl
theorem mW829 : Cond.methodLink RX9 193 yX9_spreads ∈ gWs := gWs_tab (c_gT51 (List.mem_cons_of_mem _ (List.mem_cons_of_mem _ (List.mem_cons_of_mem _ (List.mem_cons_of_mem _ (List.mem_cons_of_mem _ (List.mem_cons_of_mem _ (List.mem_cons_of_mem _ (List.mem_cons_of_mem _ (List.mem_cons_of_mem _ (List.mem_cons_of_mem _ (List.mem_cons_of_mem _ (List.mem_cons_of_mem _ (List.mem_cons_of_mem _ (List.mem_cons_self))))))))))))))) rfl
theorem mW831 : Cond.instanceMethod yX9_spreads ∈ gWs := gWs_tab (c_gT51 (List.mem_cons_of_mem _ (List.mem_cons_of_mem _ (List.mem_cons_of_mem _ (List.mem_cons_of_mem _ (List.mem_cons_of_mem _ (List.mem_cons_of_mem _ (List.mem_cons_of_mem _ (List.mem_cons_of_mem _ (List.mem_cons_of_mem _ (List.mem_cons_of_mem _ (List.mem_cons_of_mem _ (List.mem_cons_of_mem _ (List.mem_cons_of_mem _ (List.mem_cons_of_mem _ (List.mem_cons_of_mem _ (List.mem_cons_self))))))))))))))))) rfl
theorem c_gT52 {w : Cond} (h : w ∈ gT52) : w ∈ tables_1 := t_tables_1_4 (List.mem_append_right _ (List.mem_append_right _ (List.mem_append_right _ (List.mem_append_right _ (List.mem_append_right _ (List.mem_append_right _ (List.mem_append_right _ (List.mem_append_left _ h))))))))
theorem mW832 : Cond.code yX9_spreads cX9_spreads 15 none ∈ gWs := gWs_tab (c_gT52 (List.mem_cons_self)) rfl
theorem mW833 : Cond.methodLink RX9 197 yX9_more ∈ gWs := gWs_tab (c_gT52 (List.mem_cons_of_mem _ (List.mem_cons_self))) rfl
theorem mW834 : Cond.static yX9_more ∈ gWs := gWs_tab (c_gT52 (List.mem_cons_of_mem _ (List.mem_cons_of_mem _ (List.mem_cons_self)))) rfl
theorem mW835 : Cond.code yX9_more cX9_more 2 (some .int) ∈ gWs := gWs_tab (c_gT52 (List.mem_cons_of_mem _ (List.mem_cons_of_mem _ (List.mem_cons_of_mem _ (List.mem_cons_self))))) rfl
theorem mW836 : Cond.methodLink RL 97 yX9_left ∈ gWs := gWs_tab (c_gT52 (List.mem_cons_of_mem _ (List.mem_cons_of_mem _ (List.mem_cons_of_mem _ (List.mem_cons_of_mem _ (List.mem_cons_self)))))) rfl
theorem mW837 : Cond.instanceMethod yX9_left ∈ gWs := gWs_tab (c_gT52 (List.mem_cons_of_mem _ (List.mem_cons_of_mem _ (List.mem_cons_of_mem _ (List.mem_cons_of_mem _ (List.mem_cons_of_mem _ (List.mem_cons_self))))))) rfl
theorem mW838 : Cond.selects RX9 yX9_left yX9_left ∈ gWs := gWs_tab (c_gT52 (List.mem_cons_of_mem _ (List.mem_cons_of_mem _ (List.mem_cons_of_mem _ (List.mem_cons_of_mem _ (List.mem_cons_of_mem _ (List.mem_cons_of_mem _ (List.mem_cons_self)))))))) rfl
theorem mW839 : Cond.code yX9_left cX9_left 9 (some .int) ∈ gWs := gWs_tab (c_gT52 (List.mem_cons_of_mem _ (List.mem_cons_of_mem _ (List.mem_cons_of_mem _ (List.mem_cons_of_mem _ (List.mem_cons_of_mem _ (List.mem_cons_of_mem _ (List.mem_cons_of_mem _ (List.mem_cons_self))))))))) rfl
theorem mW840 : Cond.constantLong RX9 210 (400) ∈ gWs := gWs_tab (c_gT52 (List.mem_cons_of_mem _ (List.mem_cons_of_mem _ (List.mem_cons_of_mem _ (List.mem_cons_of_mem _ (List.mem_cons_of_mem _ (List.mem_cons_of_mem _ (List.mem_cons_of_mem _ (List.mem_cons_of_mem _ (List.mem_cons_self)))))))))) rfl
theorem mW841 : Cond.methodLink RL 101 yX9_stuck ∈ gWs := gWs_tab (c_gT52 (List.mem_cons_of_mem _ (List.mem_cons_of_mem _ (List.mem_cons_of_mem _ (List.mem_cons_of_mem _ (List.mem_cons_of_mem _ (List.mem_cons_of_mem _ (List.mem_cons_of_mem _ (List.mem_cons_of_mem _ (List.mem_cons_of_mem _ (List.mem_cons_self))))))))))) rfl
theorem mW842 : Cond.instanceMethod yX9_stuck ∈ gWs := gWs_tab (c_gT52 (List.mem_cons_of_mem _ (List.mem_cons_of_mem _ (List.mem_cons_of_mem _ (List.mem_cons_of_mem _ (List.mem_cons_of_mem _ (List.mem_cons_of_mem _ (List.mem_cons_of_mem _ (List.mem_cons_of_mem _ (List.mem_cons_of_mem _ (List.mem_cons_of_mem _ (List.mem_cons_self)))))))))))) rfl
theorem mW843 : Cond.selects RX9 yX9_stuck yX9_stuck ∈ gWs := gWs_tab (c_gT52 (List.mem_cons_of_mem _ (List.mem_cons_of_mem _ (List.mem_cons_of_mem _ (List.mem_cons_of_mem _ (List.mem_cons_of_mem _ (List.mem_cons_of_mem _ (List.mem_cons_of_mem _ (List.mem_cons_of_mem _ (List.mem_cons_of_mem _ (List.mem_cons_of_mem _ (List.mem_cons_of_mem _ (List.mem_cons_self))))))))))))) rfl
theorem mW844 : Cond.code yX9_stuck cX9_stuck 4 (some .int) ∈ gWs := gWs_tab (c_gT52 (List.mem_cons_of_mem _ (List.mem_cons_of_mem _ (List.mem_cons_of_mem _ (List.mem_cons_of_mem _ (List.mem_cons_of_mem _ (List.mem_cons_of_mem _ (List.mem_cons_of_mem _ (List.mem_cons_of_mem _ (List.mem_cons_of_mem _ (List.mem_cons_of_mem _ (List.mem_cons_of_mem _ (List.mem_cons_of_mem _ (List.mem_cons_self)))))))))))))) rfl
theorem mW845 : Cond.methodLink RL 105 yX9_mean ∈ gWs := gWs_tab (c_gT52 (List.mem_cons_of_mem _ (List.mem_cons_of_mem _ (List.mem_cons_of_mem _ (List.mem_cons_of_mem _ (List.mem_cons_of_mem _ (List.mem_cons_of_mem _ (List.mem_cons_of_mem _ (List.mem_cons_of_mem _ (List.mem_cons_of_mem _ (List.mem_cons_of_mem _ (List.mem_cons_of_mem _ (List.mem_cons_of_mem _ (List.mem_cons_of_mem _ (List.mem_cons_self))))))))))))))) rfl
theorem mW846 : Cond.instanceMethod yX9_mean ∈ gWs := gWs_tab (c_gT52 (List.mem_cons_of_mem _ (List.mem_cons_of_mem _ (List.mem_cons_of_mem _ (List.mem_cons_of_mem _ (List.mem_cons_of_mem _ (List.mem_cons_of_mem _ (List.mem_cons_of_mem _ (List.mem_cons_of_mem _ (List.mem_cons_of_mem _ (List.mem_cons_of_mem _ (List.mem_cons_of_mem _ (List.mem_cons_of_mem _ (List.mem_cons_of_mem _ (List.mem_cons_of_mem _ (List.mem_cons_self)))))))))))))))) rfl
theorem mW847 : Cond.selects RX9 yX9_mean yX9_mean ∈ gWs := gWs_tab (c_gT52 (List.mem_cons_of_mem _ (List.mem_cons_of_mem _ (List.mem_cons_of_mem _ (List.mem_cons_of_mem _ (List.mem_cons_of_mem _ (List.mem_cons_of_mem _ (List.mem_cons_of_mem _ (List.mem_cons_of_mem _ (List.mem_cons_of_mem _ (List.mem_cons_of_mem _ (List.mem_cons_of_mem _ (List.mem_cons_of_mem _ (List.mem_cons_of_mem _ (List.mem_cons_of_mem _ (List.mem_cons_of_mem _ (List.mem_cons_self))))))))))))))))) rfl
theorem c_gT53 {w : Cond} (h : w ∈ gT53) : w ∈ tables_1 := t_tables_1_4 (List.mem_append_right _ (List.mem_append_right _ (List.mem_append_right _ (List.mem_append_right _ (List.mem_append_right _ (List.mem_append_right _ (List.mem_append_right _ (List.mem_append_right _ (List.mem_append_left _ h)))))))))
theorem mW848 : Cond.code yX9_mean cX9_mean 16 (some .int) ∈ gWs := gWs_tab (c_gT53 (List.mem_cons_self)) rfl
theorem mW849 : Cond.constantLong RX9 212 (3) ∈ gWs := gWs_tab (c_gT53 (List.mem_cons_of_mem _ (List.mem_cons_self))) rfl
theorem mW850 : Cond.methodLink RL 109 yX9_told ∈ gWs := gWs_tab (c_gT53 (List.mem_cons_of_mem _ (List.mem_cons_of_mem _ (List.mem_cons_self)))) rfl
theorem mW851 : Cond.instanceMethod yX9_told ∈ gWs := gWs_tab (c_gT53 (List.mem_cons_of_mem _ (List.mem_cons_of_mem _ (List.mem_cons_of_mem _ (List.mem_cons_self))))) rfl
theorem mW852 : Cond.selects RX9 yX9_told yX9_told ∈ gWs := gWs_tab (c_gT53 (List.mem_cons_of_mem _ (List.mem_cons_of_mem _ (List.mem_cons_of_mem _ (List.mem_cons_of_mem _ (List.mem_cons_self)))))) rfl
theorem mW853 : Cond.code yX9_told cX9_told 9 (some .int) ∈ gWs := gWs_tab (c_gT53 (List.mem_cons_of_mem _ (List.mem_cons_of_mem _ (List.mem_cons_of_mem _ (List.mem_cons_of_mem _ (List.mem_cons_of_mem _ (List.mem_cons_self))))))) rfl
theorem mW854 : Cond.methodLink RX9 214 yX9_sum ∈ gWs := gWs_tab (c_gT53 (List.mem_cons_of_mem _ (List.mem_cons_of_mem _ (List.mem_cons_of_mem _ (List.mem_cons_of_mem _ (List.mem_cons_of_mem _ (List.mem_cons_of_mem _ (List.mem_cons_self)))))))) rfl
theorem mW856 : Cond.instanceMethod yX9_sum ∈ gWs := gWs_tab (c_gT53 (List.mem_cons_of_mem _ (List.mem_cons_of_mem _ (List.mem_cons_of_mem _ (List.mem_cons_of_mem _ (List.mem_cons_of_mem _ (List.mem_cons_of_mem _ (List.mem_cons_of_mem _ (List.mem_cons_of_mem _ (List.mem_cons_self)))))))))) rfl
theorem mW857 : Cond.code yX9_sum cX9_sum 5 (some .long) ∈ gWs := gWs_tab (c_gT53 (List.mem_cons_of_mem _ (List.mem_cons_of_mem _ (List.mem_cons_of_mem _ (List.mem_cons_of_mem _ (List.mem_cons_of_mem _ (List.mem_cons_of_mem _ (List.mem_cons_of_mem _ (List.mem_cons_of_mem _ (List.mem_cons_of_mem _ (List.mem_cons_self))))))))))) rfl
theorem mW858 : Cond.methodLink RL 113 yX9_share ∈ gWs := gWs_tab (c_gT53 (List.mem_cons_of_mem _ (List.mem_cons_of_mem _ (List.mem_cons_of_mem _ (List.mem_cons_of_mem _ (List.mem_cons_of_mem _ (List.mem_cons_of_mem _ (List.mem_cons_of_mem _ (List.mem_cons_of_mem _ (List.mem_cons_of_mem _ (List.mem_cons_of_mem _ (List.mem_cons_self)))))))))))) rfl
theorem mW859 : Cond.instanceMethod yX9_share ∈ gWs := gWs_tab (c_gT53 (List.mem_cons_of_mem _ (List.mem_cons_of_mem _ (List.mem_cons_of_mem _ (List.mem_cons_of_mem _ (List.mem_cons_of_mem _ (List.mem_cons_of_mem _ (List.mem_cons_of_mem _ (List.mem_cons_of_mem _ (List.mem_cons_of_mem _ (List.mem_cons_of_mem _ (List.mem_cons_of_mem _ (List.mem_cons_self))))))))))))) rfl
theorem mW860 : Cond.selects RX9 yX9_share yX9_share ∈ gWs := gWs_tab (c_gT53 (List.mem_cons_of_mem _ (List.mem_cons_of_mem _ (List.mem_cons_of_mem _ (List.mem_cons_of_mem _ (List.mem_cons_of_mem _ (List.mem_cons_of_mem _ (List.mem_cons_of_mem _ (List.mem_cons_of_mem _ (List.mem_cons_of_mem _ (List.mem_cons_of_mem _ (List.mem_cons_of_mem _ (List.mem_cons_of_mem _ (List.mem_cons_self)))))))))))))) rfl
theorem mW861 : Cond.code yX9_share cX9_share 10 (some .int) ∈ gWs := gWs_tab (c_gT53 (List.mem_cons_of_mem _ (List.mem_cons_of_mem _ (List.mem_cons_of_mem _ (List.mem_cons_of_mem _ (List.mem_cons_of_mem _ (List.mem_cons_of_mem _ (List.mem_cons_of_mem _ (List.mem_cons_of_mem _ (List.mem_cons_of_mem _ (List.mem_cons_of_mem _ (List.mem_cons_of_mem _ (List.mem_cons_of_mem _ (List.mem_cons_of_mem _ (List.mem_cons_self))))))))))))))) rfl
theorem mW862 : Cond.methodLink RL 117 yX9_free ∈ gWs := gWs_tab (c_gT53 (List.mem_cons_of_mem _ (List.mem_cons_of_mem _ (List.mem_cons_of_mem _ (List.mem_cons_of_mem _ (List.mem_cons_of_mem _ (List.mem_cons_of_mem _ (List.mem_cons_of_mem _ (List.mem_cons_of_mem _ (List.mem_cons_of_mem _ (List.mem_cons_of_mem _ (List.mem_cons_of_mem _ (List.mem_cons_of_mem _ (List.mem_cons_of_mem _ (List.mem_cons_of_mem _ (List.mem_cons_self)))))))))))))))) rfl
theorem mW863 : Cond.instanceMethod yX9_free ∈ gWs := gWs_tab (c_gT53 (List.mem_cons_of_mem _ (List.mem_cons_of_mem _ (List.mem_cons_of_mem _ (List.mem_cons_of_mem _ (List.mem_cons_of_mem _ (List.mem_cons_of_mem _ (List.mem_cons_of_mem _ (List.mem_cons_of_mem _ (List.mem_cons_of_mem _ (List.mem_cons_of_mem _ (List.mem_cons_of_mem _ (List.mem_cons_of_mem _ (List.mem_cons_of_mem _ (List.mem_cons_of_mem _ (List.mem_cons_of_mem _ (List.mem_cons_self))))))))))))))))) rfl
theorem c_gT54 {w : Cond} (h : w ∈ gT54) : w ∈ tables_1 := t_tables_1_4 (List.mem_append_right _ (List.mem_append_right _ (List.mem_append_right _ (List.mem_append_right _ (List.mem_append_right _ (List.mem_append_right _ (List.mem_append_right _ (List.mem_append_right _ (List.mem_append_right _ (List.mem_append_left _ h))))))))))
theorem mW864 : Cond.selects RX9 yX9_free yX9_free ∈ gWs := gWs_tab (c_gT54 (List.mem_cons_self)) rfl
theorem mW865 : Cond.code yX9_free cX9_free 9 (some .int) ∈ gWs := gWs_tab (c_gT54 (List.mem_cons_of_mem _ (List.mem_cons_self))) rfl
theorem mW866 : Cond.methodLink RL 126 yX9_count ∈ gWs := gWs_tab (c_gT54 (List.mem_cons_of_mem _ (List.mem_cons_of_mem _ (List.mem_cons_self)))) rfl
theorem mW867 : Cond.instanceMethod yX9_count ∈ gWs := gWs_tab (c_gT54 (List.mem_cons_of_mem _ (List.mem_cons_of_mem _ (List.mem_cons_of_mem _ (List.mem_cons_self))))) rfl
theorem mW868 : Cond.selects RX9 yX9_count yX9_count ∈ gWs := gWs_tab (c_gT54 (List.mem_cons_of_mem _ (List.mem_cons_of_mem _ (List.mem_cons_of_mem _ (List.mem_cons_of_mem _ (List.mem_cons_self)))))) rfl
theorem mW869 : Cond.code yX9_count cX9_count 2 (some .int) ∈ gWs := gWs_tab (c_gT54 (List.mem_cons_of_mem _ (List.mem_cons_of_mem _ (List.mem_cons_of_mem _ (List.mem_cons_of_mem _ (List.mem_cons_of_mem _ (List.mem_cons_self))))))) rfl
theorem mW870 : Cond.constantLong RL 18 (4294967295) ∈ gWs := gWs_tab (c_gT54 (List.mem_cons_of_mem _ (List.mem_cons_of_mem _ (List.mem_cons_of_mem _ (List.mem_cons_of_mem _ (List.mem_cons_of_mem _ (List.mem_cons_of_mem _ (List.mem_cons_self)))))))) rfl
theorem mP0 : Cond.selects RX8 yX8_sheetAt yX8_sheetAt ∈ gWs := gWs_prv 0 (by decide +kernel) rfl
theorem mP1 : Cond.selects RX8 yX8_urnAt yX8_urnAt ∈ gWs := gWs_prv 1 (by decide +kernel) rfl
theorem mP2 : Cond.selects RX8 yX8_keepAct yX8_keepAct ∈ gWs := gWs_prv 2 (by decide +kernel) rfl
theorem mP3 : Cond.selects RX8 yX8_findPath yX8_findPath ∈ gWs := gWs_prv 3 (by decide +kernel) rfl
theorem mP4 : Cond.selects RX8 yX8_goPath yX8_goPath ∈ gWs := gWs_prv 4 (by decide +kernel) rfl
theorem mP5 : Cond.selects RX8 yX8_weighRows yX8_weighRows ∈ gWs := gWs_prv 5 (by decide +kernel) rfl
theorem mP6 : Cond.selects RX0 yX0_walk yX0_walk ∈ gWs := gWs_prv 6 (by decide +kernel) rfl
theorem mP7 : Cond.selects RX0 yX0_walkStep yX0_walkStep ∈ gWs := gWs_prv 7 (by decide +kernel) rfl
theorem mP8 : Cond.selects RX0 yX0_findBalls yX0_findBalls ∈ gWs := gWs_prv 8 (by decide +kernel) rfl
theorem mP9 : Cond.selects RX0 yX0_settle yX0_settle ∈ gWs := gWs_prv 9 (by decide +kernel) rfl
theorem mP10 : Cond.selects RX0 yX0_spread yX0_spread ∈ gWs := gWs_prv 10 (by decide +kernel) rfl
theorem mP11 : Cond.selects RX3 yX3_isAsAhead yX3_isAsAhead ∈ gWs := gWs_prv 11 (by decide +kernel) rfl
theorem mP12 : Cond.selects RX8 yX8_drawsInAll yX8_drawsInAll ∈ gWs := gWs_prv 12 (by decide +kernel) rfl
theorem mP13 : Cond.selects RX9 yX9_placed yX9_placed ∈ gWs := gWs_prv 13 (by decide +kernel) rfl
theorem mP14 : Cond.selects RX9 yX9_isUrn yX9_isUrn ∈ gWs := gWs_prv 14 (by decide +kernel) rfl
theorem mP15 : Cond.selects RX9 yX9_isColour yX9_isColour ∈ gWs := gWs_prv 15 (by decide +kernel) rfl
theorem mP16 : Cond.selects RX9 yX9_keep yX9_keep ∈ gWs := gWs_prv 16 (by decide +kernel) rfl
theorem mP17 : Cond.selects RX9 yX9_balls yX9_balls ∈ gWs := gWs_prv 17 (by decide +kernel) rfl
theorem mP18 : Cond.selects RX9 yX9_isEven yX9_isEven ∈ gWs := gWs_prv 18 (by decide +kernel) rfl
theorem mP19 : Cond.selects RX9 yX9_addedSum yX9_addedSum ∈ gWs := gWs_prv 19 (by decide +kernel) rfl
theorem mP20 : Cond.selects RX9 yX9_isLike yX9_isLike ∈ gWs := gWs_prv 20 (by decide +kernel) rfl
theorem mP21 : Cond.selects RX9 yX9_canDraw yX9_canDraw ∈ gWs := gWs_prv 21 (by decide +kernel) rfl
theorem mP22 : Cond.selects RX9 yX9_draws yX9_draws ∈ gWs := gWs_prv 22 (by decide +kernel) rfl
theorem mP23 : Cond.selects RX9 yX9_looks yX9_looks ∈ gWs := gWs_prv 23 (by decide +kernel) rfl
theorem mP24 : Cond.selects RX9 yX9_doesDraws yX9_doesDraws ∈ gWs := gWs_prv 24 (by decide +kernel) rfl
theorem mP25 : Cond.selects RX9 yX9_follows yX9_follows ∈ gWs := gWs_prv 25 (by decide +kernel) rfl
theorem mP26 : Cond.selects RX9 yX9_tells yX9_tells ∈ gWs := gWs_prv 26 (by decide +kernel) rfl
theorem mP27 : Cond.selects RX9 yX9_isAsked yX9_isAsked ∈ gWs := gWs_prv 27 (by decide +kernel) rfl
theorem mP28 : Cond.selects RX9 yX9_evenFault yX9_evenFault ∈ gWs := gWs_prv 28 (by decide +kernel) rfl
theorem mP29 : Cond.selects RX9 yX9_goes yX9_goes ∈ gWs := gWs_prv 29 (by decide +kernel) rfl
theorem mP30 : Cond.selects RX9 yX9_looksAt yX9_looksAt ∈ gWs := gWs_prv 30 (by decide +kernel) rfl
theorem mP31 : Cond.selects RX9 yX9_spreads yX9_spreads ∈ gWs := gWs_prv 31 (by decide +kernel) rfl
theorem mP32 : Cond.selects RX9 yX9_sum yX9_sum ∈ gWs := gWs_prv 32 (by decide +kernel) rfl
theorem iwX0 : ∀ w ∈ wsX00, w ∈ gWs := by
  show ∀ w ∈ (List.range 11).map (u_lay RX0 TX0), w ∈ gWs
  exact List.forall_mem_cons.mpr ⟨mW125, List.forall_mem_cons.mpr ⟨mW127, List.forall_mem_cons.mpr ⟨mW129, List.forall_mem_cons.mpr ⟨mW131, List.forall_mem_cons.mpr ⟨mW133, List.forall_mem_cons.mpr ⟨mW135, List.forall_mem_cons.mpr ⟨mW137, List.forall_mem_cons.mpr ⟨mW139, List.forall_mem_cons.mpr ⟨mW141, List.forall_mem_cons.mpr ⟨mW143, List.forall_mem_cons.mpr ⟨mW145, fun _ h => absurd h List.not_mem_nil⟩⟩⟩⟩⟩⟩⟩⟩⟩⟩⟩
theorem iwX1 : ∀ w ∈ wsX10, w ∈ gWs := by
  show ∀ w ∈ (List.range 3).map (u_lay RX1 TX1), w ∈ gWs
  exact List.forall_mem_cons.mpr ⟨mW160, List.forall_mem_cons.mpr ⟨mW162, List.forall_mem_cons.mpr ⟨mW164, fun _ h => absurd h List.not_mem_nil⟩⟩⟩
theorem iwX2 : ∀ w ∈ wsX20, w ∈ gWs := by
  show ∀ w ∈ (List.range 3).map (u_lay RX2 TX2), w ∈ gWs
  exact List.forall_mem_cons.mpr ⟨mW37, List.forall_mem_cons.mpr ⟨mW39, List.forall_mem_cons.mpr ⟨mW41, fun _ h => absurd h List.not_mem_nil⟩⟩⟩
theorem iwX3 : ∀ w ∈ wsX30, w ∈ gWs := by
  show ∀ w ∈ (List.range 2).map (u_lay RX3 TX3), w ∈ gWs
  exact List.forall_mem_cons.mpr ⟨mW96, List.forall_mem_cons.mpr ⟨mW98, fun _ h => absurd h List.not_mem_nil⟩⟩
theorem iwX4 : ∀ w ∈ wsX40, w ∈ gWs := by
  show ∀ w ∈ (List.range 4).map (u_lay RX4 TX4), w ∈ gWs
  exact List.forall_mem_cons.mpr ⟨mW59, List.forall_mem_cons.mpr ⟨mW61, List.forall_mem_cons.mpr ⟨mW63, List.forall_mem_cons.mpr ⟨mW65, fun _ h => absurd h List.not_mem_nil⟩⟩⟩⟩
theorem iwX5 : ∀ w ∈ wsX50, w ∈ gWs := by
  show ∀ w ∈ (List.range 3).map (u_lay RX5 TX5), w ∈ gWs
  exact List.forall_mem_cons.mpr ⟨mW81, List.forall_mem_cons.mpr ⟨mW83, List.forall_mem_cons.mpr ⟨mW85, fun _ h => absurd h List.not_mem_nil⟩⟩⟩
theorem iwX6 : ∀ w ∈ wsX60, w ∈ gWs := by
  show ∀ w ∈ (List.range 3).map (u_lay RX6 TX6), w ∈ gWs
  exact List.forall_mem_cons.mpr ⟨mW177, List.forall_mem_cons.mpr ⟨mW179, List.forall_mem_cons.mpr ⟨mW181, fun _ h => absurd h List.not_mem_nil⟩⟩⟩
theorem iwX7 : ∀ w ∈ wsX70, w ∈ gWs := by
  show ∀ w ∈ (List.range 5).map (u_lay RX7 TX7), w ∈ gWs
  exact List.forall_mem_cons.mpr ⟨mW206, List.forall_mem_cons.mpr ⟨mW208, List.forall_mem_cons.mpr ⟨mW210, List.forall_mem_cons.mpr ⟨mW212, List.forall_mem_cons.mpr ⟨mW214, fun _ h => absurd h List.not_mem_nil⟩⟩⟩⟩⟩
theorem iwX8 : ∀ w ∈ wsX80, w ∈ gWs := by
  show ∀ w ∈ (List.range 10).map (u_lay RX8 TX8), w ∈ gWs
  exact List.forall_mem_cons.mpr ⟨mW227, List.forall_mem_cons.mpr ⟨mW229, List.forall_mem_cons.mpr ⟨mW231, List.forall_mem_cons.mpr ⟨mW233, List.forall_mem_cons.mpr ⟨mW235, List.forall_mem_cons.mpr ⟨mW237, List.forall_mem_cons.mpr ⟨mW239, List.forall_mem_cons.mpr ⟨mW241, List.forall_mem_cons.mpr ⟨mW243, List.forall_mem_cons.mpr ⟨mW245, fun _ h => absurd h List.not_mem_nil⟩⟩⟩⟩⟩⟩⟩⟩⟩⟩
theorem iwX9 : ∀ w ∈ wsX90, w ∈ gWs := by
  show ∀ w ∈ (List.range 26).map (u_lay RX9 TX9), w ∈ gWs
  exact List.forall_mem_cons.mpr ⟨mW598, List.forall_mem_cons.mpr ⟨mW600, List.forall_mem_cons.mpr ⟨mW602, List.forall_mem_cons.mpr ⟨mW604, List.forall_mem_cons.mpr ⟨mW606, List.forall_mem_cons.mpr ⟨mW608, List.forall_mem_cons.mpr ⟨mW610, List.forall_mem_cons.mpr ⟨mW612, List.forall_mem_cons.mpr ⟨mW614, List.forall_mem_cons.mpr ⟨mW616, List.forall_mem_cons.mpr ⟨mW618, List.forall_mem_cons.mpr ⟨mW620, List.forall_mem_cons.mpr ⟨mW622, List.forall_mem_cons.mpr ⟨mW624, List.forall_mem_cons.mpr ⟨mW626, List.forall_mem_cons.mpr ⟨mW628, List.forall_mem_cons.mpr ⟨mW630, List.forall_mem_cons.mpr ⟨mW632, List.forall_mem_cons.mpr ⟨mW634, List.forall_mem_cons.mpr ⟨mW636, List.forall_mem_cons.mpr ⟨mW638, List.forall_mem_cons.mpr ⟨mW640, List.forall_mem_cons.mpr ⟨mW642, List.forall_mem_cons.mpr ⟨mW644, List.forall_mem_cons.mpr ⟨mW646, List.forall_mem_cons.mpr ⟨mW648, fun _ h => absurd h List.not_mem_nil⟩⟩⟩⟩⟩⟩⟩⟩⟩⟩⟩⟩⟩⟩⟩⟩⟩⟩⟩⟩⟩⟩⟩⟩⟩⟩
end
section
-- THE STATE: int arrays, long arrays, int fields, long fields, which of the two long arrays is 'now'
abbrev GS : Type := (Nat → Nat → Int32) × (Nat → Nat → Int64) × (Nat → Int32) × (Nat → Int64) × Nat
def gI (σ : GS) (k : Nat) : Nat → Int32 := σ.1 k
def gL (σ : GS) (k : Nat) : Nat → Int64 := σ.2.1 k
def gN (σ : GS) (k : Nat) : Int32 := σ.2.2.1 k
def gG (σ : GS) (k : Nat) : Int64 := σ.2.2.2.1 k
def gP (σ : GS) : Nat := σ.2.2.2.2
def uI (σ : GS) (k : Nat) (f : Nat → Int32) : GS := (va_up σ.1 k f, σ.2)
def uL (σ : GS) (k : Nat) (f : Nat → Int64) : GS := (σ.1, va_up σ.2.1 k f, σ.2.2)
def uN (σ : GS) (k : Nat) (v : Int32) : GS := (σ.1, σ.2.1, va_up σ.2.2.1 k v, σ.2.2.2)
def uG (σ : GS) (k : Nat) (v : Int64) : GS := (σ.1, σ.2.1, σ.2.2.1, va_up σ.2.2.2.1 k v, σ.2.2.2.2)
def uP (σ : GS) (v : Nat) : GS := (σ.1, σ.2.1, σ.2.2.1, σ.2.2.2.1, v)
theorem gI_uI (σ : GS) (k : Nat) (f : Nat → Int32) (j : Nat) : gI (uI σ k f) j = if j = k then f else gI σ j := rfl
theorem gI_uL (σ : GS) (k : Nat) (f : Nat → Int64) (j : Nat) : gI (uL σ k f) j = gI σ j := rfl
theorem gI_uN (σ : GS) (k : Nat) (v : Int32) (j : Nat) : gI (uN σ k v) j = gI σ j := rfl
theorem gI_uG (σ : GS) (k : Nat) (v : Int64) (j : Nat) : gI (uG σ k v) j = gI σ j := rfl
theorem gI_uP (σ : GS) (v : Nat) (j : Nat) : gI (uP σ v) j = gI σ j := rfl
theorem gL_uI (σ : GS) (k : Nat) (f : Nat → Int32) (j : Nat) : gL (uI σ k f) j = gL σ j := rfl
theorem gL_uL (σ : GS) (k : Nat) (f : Nat → Int64) (j : Nat) : gL (uL σ k f) j = if j = k then f else gL σ j := rfl
theorem gL_uN (σ : GS) (k : Nat) (v : Int32) (j : Nat) : gL (uN σ k v) j = gL σ j := rfl
theorem gL_uG (σ : GS) (k : Nat) (v : Int64) (j : Nat) : gL (uG σ k v) j = gL σ j := rfl
theorem gL_uP (σ : GS) (v : Nat) (j : Nat) : gL (uP σ v) j = gL σ j := rfl
theorem gN_uI (σ : GS) (k : Nat) (f : Nat → Int32) (j : Nat) : gN (uI σ k f) j = gN σ j := rfl
theorem gN_uL (σ : GS) (k : Nat) (f : Nat → Int64) (j : Nat) : gN (uL σ k f) j = gN σ j := rfl
theorem gN_uN (σ : GS) (k : Nat) (v : Int32) (j : Nat) : gN (uN σ k v) j = if j = k then v else gN σ j := rfl
theorem gN_uG (σ : GS) (k : Nat) (v : Int64) (j : Nat) : gN (uG σ k v) j = gN σ j := rfl
theorem gN_uP (σ : GS) (v : Nat) (j : Nat) : gN (uP σ v) j = gN σ j := rfl
theorem gG_uI (σ : GS) (k : Nat) (f : Nat → Int32) (j : Nat) : gG (uI σ k f) j = gG σ j := rfl
theorem gG_uL (σ : GS) (k : Nat) (f : Nat → Int64) (j : Nat) : gG (uL σ k f) j = gG σ j := rfl
theorem gG_uN (σ : GS) (k : Nat) (v : Int32) (j : Nat) : gG (uN σ k v) j = gG σ j := rfl
theorem gG_uG (σ : GS) (k : Nat) (v : Int64) (j : Nat) : gG (uG σ k v) j = if j = k then v else gG σ j := rfl
theorem gG_uP (σ : GS) (v : Nat) (j : Nat) : gG (uP σ v) j = gG σ j := rfl
theorem gP_uI (σ : GS) (k : Nat) (f : Nat → Int32) : gP (uI σ k f) = gP σ := rfl
theorem gP_uL (σ : GS) (k : Nat) (f : Nat → Int64) : gP (uL σ k f) = gP σ := rfl
theorem gP_uN (σ : GS) (k : Nat) (v : Int32) : gP (uN σ k v) = gP σ := rfl
theorem gP_uG (σ : GS) (k : Nat) (v : Int64) : gP (uG σ k v) = gP σ := rfl
theorem gP_uP (σ : GS) (v : Nat) : gP (uP σ v) = v := rfl
theorem gS_ext {σ σ' : GS} (h1 : ∀ k, gI σ k = gI σ' k) (h2 : ∀ k, gL σ k = gL σ' k) (h3 : ∀ k, gN σ k = gN σ' k) (h4 : ∀ k, gG σ k = gG σ' k) (h5 : gP σ = gP σ') : σ = σ' := by
  obtain ⟨a, b, c, d, e⟩ := σ
  obtain ⟨a', b', c', d', e'⟩ := σ'
  have e1 : a = a' := funext h1
  have e2 : b = b' := funext h2
  have e3 : c = c' := funext h3
  have e4 : d = d' := funext h4
  have e5 : e = e' := h5
  subst e1; subst e2; subst e3; subst e4; subst e5
  rfl
-- THE WORLD: 102 cells, at addresses a 0, a 1, ..: 22 objects, 60 int arrays, 17 long arrays, 3 arrays of references
def gLenI (k : Nat) : Nat := if k < 8 then 4 else if k < 16 then 16 else if k < 24 then 4 else if k < 44 then 201 else ([8, 8, 4, 12, 4, 4, 6, 6, 8, 202, 4040, 8, 8, 4, 4, 4] : List Nat).getD (k - 44) 0
def gLenL (k : Nat) : Nat := if k < 6 then 16 else ([216, 216, 2197, 2197, 13, 201, 96, 16, 4394, 216, 216] : List Nat).getD (k - 6) 0
def gFldM (a : Nat → Nat) (σ : GS) : List Value := [.ref (a 72), .ref (a 73), .ref (a 94), .ref (a 95), .int (gN σ 33), .ref (a 74), .ref (a 75), .ref (a 76), .int (gN σ 34), .long (gG σ 10), .long (gG σ 11), .long (gG σ 12), .int (gN σ 35), .ref (a 77), .ref (a 78), .int (gN σ 36), .ref (a 79), .long (gG σ 13), .long (gG σ 14), .ref (a 96), .long (gG σ 15), .long (gG σ 16), .ref (a 80), .ref (a 81), .ref (a 97), .ref (a 98)]
def gFld (a : Nat → Nat) (σ : GS) (k : Nat) : Nat × List Value :=
  if k = 0 then (8, [.ref (a 99), .ref (a 100), .ref (a 16), .ref (a 17), .ref (a 18), .ref (a 19), .ref (a 20), .ref (a 21), .int (gN σ 0), .int (gN σ 1)])
  else if k = 1 then (9, gFldM a σ)
  else if k < 8 then (6, [.ref (a (80 + k)), .int (gN σ k), .int (gN σ (6 + k))])
  else if k < 16 then (7, [.ref (a (14 + k)), .ref (a (22 + k)), .ref (a (30 + k)), .int (gN σ (6 + k)), .int (gN σ (14 + k))])
  else if k = 16 then (2, [.ref (a 101), .int (gN σ 30), .int (gN σ 31)])
  else if k = 17 then (4, [.ref (a 66), .ref (a 67), .int (gN σ 32), .long (gG σ 0)])
  else if k = 18 then (5, [.ref (a 68), .long (gG σ 4), .long (gG σ 5)])
  else if k = 19 then (3, [.ref (a 88), .ref (a 89)])
  else if k = 20 then (0, [.ref (a (90 + gP σ % 2)), .ref (a (91 - gP σ % 2)), .ref (a 69), .ref (a 70), .ref (a 71), .ref (a 92), .ref (a 93), .long (gG σ 6), .long (gG σ 7), .long (gG σ 8), .long (gG σ 9)])
  else (1, [.long (gG σ 1), .long (gG σ 2), .long (gG σ 3)])
def gE (cy : Nat → ClassId) (a : Nat → Nat) (σ : GS) (k : Nat) : va_E :=
  if k < 22 then .inr (gFld a σ k)
  else if k < 82 then .inl (cy 0, gLenI (k - 22), .inl (gI σ (k - 22)))
  else if k < 99 then .inl (cy 1, gLenL (k - 82), .inr (.inl (gL σ (k - 82))))
  else if k = 99 then .inl (cy 2, 6, .inr (.inr (.inr (.inr (fun j => if j < 6 then some (a (2 + j)) else none)))))
  else if k = 100 then .inl (cy 3, 8, .inr (.inr (.inr (.inr (fun j => if j < 8 then some (a (8 + j)) else none)))))
  else .inl (cy 4, 20, .inr (.inr (.inr (.inr (fun j => if j < 20 then some (a (46 + j)) else none)))))
def gT (cy : Nat → ClassId) : List (ClassId × FieldType) := [(cy 0, .int), (cy 1, .long), (cy 2, .object RX6), (cy 3, .object RX7), (cy 4, .array .int)]
-- δ: the classes' numbers, the array classes, the addresses, the two constant arrays
abbrev GD : Type := va_G × (Nat → ClassId) × (Nat → Nat) × Nat × Nat
def wG (δ : GD) (σ : GS) : va_W := (List.range 102).map (fun k => (δ.2.2.1 k, gE δ.2.1 δ.2.2.1 σ k))
theorem wG_len (δ : GD) (σ : GS) : (wG δ σ).length = 102 := by simp [wG]
theorem wG_get (δ : GD) (σ : GS) {k : Nat} (h : k < 102) : (wG δ σ)[k]? = some (δ.2.2.1 k, gE δ.2.1 δ.2.2.1 σ k) := by simp [wG, h]
theorem wG_inv {δ : GD} {σ : GS} {k : Nat} {q : Nat × va_E} (h : (wG δ σ)[k]? = some q) : k < 102 ∧ q = (δ.2.2.1 k, gE δ.2.1 δ.2.2.1 σ k) := by
  have hk : k < 102 := by
    have := (List.getElem?_eq_some_iff.mp h).1
    rwa [wG_len] at this
  rw [wG_get δ σ hk] at h
  exact ⟨hk, (Option.some.inj h).symm⟩
theorem wG_set (δ : GD) {σ σ' : GS} {q : Nat} {e : va_E} (h : ∀ j, j < 102 → gE δ.2.1 δ.2.2.1 σ' j = if j = q then e else gE δ.2.1 δ.2.2.1 σ j) : (wG δ σ).set q (δ.2.2.1 q, e) = wG δ σ' := by
  apply List.ext_getElem?
  intro k
  by_cases hk : k < 102
  · rw [wG_get δ σ' hk, h k hk]
    by_cases e1 : k = q
    · subst e1
      rw [List.getElem?_set_self (by rw [wG_len]; exact hk), if_pos rfl]
    · rw [List.getElem?_set_ne (Ne.symm e1), wG_get δ σ hk, if_neg e1]
  · rw [List.getElem?_eq_none (by rw [List.length_set, wG_len]; omega), List.getElem?_eq_none (by rw [wG_len]; omega)]
theorem wG_I (δ : GD) (σ : GS) {k : Nat} (h : k < 60) : (wG δ σ)[22 + k]? = some (δ.2.2.1 (22 + k), .inl (δ.2.1 0, gLenI k, .inl (gI σ k))) := by
  rw [wG_get δ σ (by omega)]
  simp only [gE, if_neg (show ¬ 22 + k < 22 by omega), if_pos (show 22 + k < 82 by omega), Nat.add_sub_cancel_left]
theorem wG_L (δ : GD) (σ : GS) {k : Nat} (h : k < 17) : (wG δ σ)[82 + k]? = some (δ.2.2.1 (82 + k), .inl (δ.2.1 1, gLenL k, .inr (.inl (gL σ k)))) := by
  rw [wG_get δ σ (by omega)]
  simp only [gE, if_neg (show ¬ 82 + k < 22 by omega), if_neg (show ¬ 82 + k < 82 by omega), if_pos (show 82 + k < 99 by omega), Nat.add_sub_cancel_left]
theorem wG_setI (δ : GD) (σ : GS) {k : Nat} (h : k < 60) (f : Nat → Int32) : (wG δ σ).set (22 + k) (δ.2.2.1 (22 + k), .inl (δ.2.1 0, gLenI k, .inl f)) = wG δ (uI σ k f) := by
  apply wG_set
  intro j hj
  by_cases e : j = 22 + k
  · subst e
    rw [if_pos rfl]
    simp only [gE, if_neg (show ¬ 22 + k < 22 by omega), if_pos (show 22 + k < 82 by omega), Nat.add_sub_cancel_left, gI_uI, if_true]
  · rw [if_neg e]
    by_cases h1 : j < 22
    · simp only [gE, if_pos h1]
      rfl
    · by_cases h2 : j < 82
      · simp only [gE, if_neg h1, if_pos h2, gI_uI, if_neg (show ¬ j - 22 = k by omega)]
      · simp only [gE, if_neg h1, if_neg h2]
        rfl
theorem wG_setL (δ : GD) (σ : GS) {k : Nat} (h : k < 17) (f : Nat → Int64) : (wG δ σ).set (82 + k) (δ.2.2.1 (82 + k), .inl (δ.2.1 1, gLenL k, .inr (.inl f))) = wG δ (uL σ k f) := by
  apply wG_set
  intro j hj
  by_cases e : j = 82 + k
  · subst e
    rw [if_pos rfl]
    simp only [gE, if_neg (show ¬ 82 + k < 22 by omega), if_neg (show ¬ 82 + k < 82 by omega), if_pos (show 82 + k < 99 by omega), Nat.add_sub_cancel_left, gL_uL, if_true]
  · rw [if_neg e]
    by_cases h1 : j < 22
    · simp only [gE, if_pos h1]
      rfl
    · by_cases h2 : j < 82
      · simp only [gE, if_neg h1, if_pos h2]
        rfl
      · by_cases h3 : j < 99
        · simp only [gE, if_neg h1, if_neg h2, if_pos h3, gL_uL, if_neg (show ¬ j - 82 = k by omega)]
        · simp only [gE, if_neg h1, if_neg h2, if_neg h3]
/-- objects: what changes is the fields of one -/
theorem wG_setO (δ : GD) {σ σ' : GS} {q : Nat} {e : Nat × List Value} (hq : q < 22) (hI : σ'.1 = σ.1) (hL : σ'.2.1 = σ.2.1) (he : gFld δ.2.2.1 σ' q = e) (ho : ∀ j, j < 22 → j ≠ q → gFld δ.2.2.1 σ' j = gFld δ.2.2.1 σ j) : (wG δ σ).set q (δ.2.2.1 q, .inr e) = wG δ σ' := by
  apply wG_set
  intro j hj
  by_cases e1 : j = q
  · subst e1
    rw [if_pos rfl]
    simp only [gE, if_pos hq, he]
  · rw [if_neg e1]
    by_cases h1 : j < 22
    · simp only [gE, if_pos h1, ho j h1 e1]
    · by_cases h2 : j < 82
      · simp only [gE, if_neg h1, if_pos h2, gI, hI]
      · by_cases h3 : j < 99
        · simp only [gE, if_neg h1, if_neg h2, if_pos h3, gL, hL]
        · simp only [gE, if_neg h1, if_neg h2, if_neg h3]
theorem wO_get (δ : GD) (σ : GS) {q : Nat} {e : Nat × List Value} (hq : q < 22) (he : gFld δ.2.2.1 σ q = e) : (wG δ σ)[q]? = some (δ.2.2.1 q, .inr e) := by
  rw [wG_get δ σ (by omega)]
  simp only [gE, if_pos hq, he]
theorem wO_X (δ : GD) (σ : GS) : (wG δ σ)[0]? = some (δ.2.2.1 0, .inr (8, [.ref (δ.2.2.1 99), .ref (δ.2.2.1 100), .ref (δ.2.2.1 16), .ref (δ.2.2.1 17), .ref (δ.2.2.1 18), .ref (δ.2.2.1 19), .ref (δ.2.2.1 20), .ref (δ.2.2.1 21), .int (gN σ 0), .int (gN σ 1)])) := wO_get δ σ (by decide) rfl
theorem wO_M (δ : GD) (σ : GS) : (wG δ σ)[1]? = some (δ.2.2.1 1, .inr (9, gFldM δ.2.2.1 σ)) := wO_get δ σ (by decide) rfl
theorem wO_S (δ : GD) (σ : GS) {u : Nat} (h : u < 6) : (wG δ σ)[2 + u]? = some (δ.2.2.1 (2 + u), .inr (6, [.ref (δ.2.2.1 (82 + u)), .int (gN σ (2 + u)), .int (gN σ (8 + u))])) :=
  wO_get δ σ (by omega) (by simp only [gFld, if_neg (show ¬ 2 + u = 0 by omega), if_neg (show ¬ 2 + u = 1 by omega), if_pos (show 2 + u < 8 by omega), show 80 + (2 + u) = 82 + u by omega, show 6 + (2 + u) = 8 + u by omega])
theorem wO_U (δ : GD) (σ : GS) {u : Nat} (h : u < 8) : (wG δ σ)[8 + u]? = some (δ.2.2.1 (8 + u), .inr (7, [.ref (δ.2.2.1 (22 + u)), .ref (δ.2.2.1 (30 + u)), .ref (δ.2.2.1 (38 + u)), .int (gN σ (14 + u)), .int (gN σ (22 + u))])) :=
  wO_get δ σ (by omega) (by simp only [gFld, if_neg (show ¬ 8 + u = 0 by omega), if_neg (show ¬ 8 + u = 1 by omega), if_neg (show ¬ 8 + u < 8 by omega), if_pos (show 8 + u < 16 by omega), show 14 + (8 + u) = 22 + u by omega, show 22 + (8 + u) = 30 + u by omega, show 30 + (8 + u) = 38 + u by omega, show 6 + (8 + u) = 14 + u by omega])
theorem wO_K (δ : GD) (σ : GS) : (wG δ σ)[16]? = some (δ.2.2.1 16, .inr (2, [.ref (δ.2.2.1 101), .int (gN σ 30), .int (gN σ 31)])) := wO_get δ σ (by decide) rfl
theorem wO_P (δ : GD) (σ : GS) : (wG δ σ)[17]? = some (δ.2.2.1 17, .inr (4, [.ref (δ.2.2.1 66), .ref (δ.2.2.1 67), .int (gN σ 32), .long (gG σ 0)])) := wO_get δ σ (by decide) rfl
theorem wO_R (δ : GD) (σ : GS) : (wG δ σ)[18]? = some (δ.2.2.1 18, .inr (5, [.ref (δ.2.2.1 68), .long (gG σ 4), .long (gG σ 5)])) := wO_get δ σ (by decide) rfl
theorem wO_O (δ : GD) (σ : GS) : (wG δ σ)[19]? = some (δ.2.2.1 19, .inr (3, [.ref (δ.2.2.1 88), .ref (δ.2.2.1 89)])) := wO_get δ σ (by decide) rfl
theorem wO_A (δ : GD) (σ : GS) : (wG δ σ)[20]? = some (δ.2.2.1 20, .inr (0, [.ref (δ.2.2.1 (90 + gP σ % 2)), .ref (δ.2.2.1 (91 - gP σ % 2)), .ref (δ.2.2.1 69), .ref (δ.2.2.1 70), .ref (δ.2.2.1 71), .ref (δ.2.2.1 92), .ref (δ.2.2.1 93), .long (gG σ 6), .long (gG σ 7), .long (gG σ 8), .long (gG σ 9)])) := wO_get δ σ (by decide) rfl
theorem wO_F (δ : GD) (σ : GS) : (wG δ σ)[21]? = some (δ.2.2.1 21, .inr (1, [.long (gG σ 1), .long (gG σ 2), .long (gG σ 3)])) := wO_get δ σ (by decide) rfl
theorem wR_S (δ : GD) (σ : GS) : (wG δ σ)[99]? = some (δ.2.2.1 99, .inl (δ.2.1 2, 6, .inr (.inr (.inr (.inr (fun j => if j < 6 then some (δ.2.2.1 (2 + j)) else none)))))) := wG_get δ σ (by decide)
theorem wR_U (δ : GD) (σ : GS) : (wG δ σ)[100]? = some (δ.2.2.1 100, .inl (δ.2.1 3, 8, .inr (.inr (.inr (.inr (fun j => if j < 8 then some (δ.2.2.1 (8 + j)) else none)))))) := wG_get δ σ (by decide)
theorem wR_K (δ : GD) (σ : GS) : (wG δ σ)[101]? = some (δ.2.2.1 101, .inl (δ.2.1 4, 20, .inr (.inr (.inr (.inr (fun j => if j < 20 then some (δ.2.2.1 (46 + j)) else none)))))) := wG_get δ σ (by decide)
/-- the fields' numbers: which object a field stands in, by its number -/
def gHomeN (n : Nat) : Nat := if n < 2 then 0 else if n < 8 then n else if n < 14 then n - 6 else if n < 22 then n - 6 else if n < 30 then n - 14 else if n < 32 then 16 else if n < 33 then 17 else 1
def gHomeG (n : Nat) : Nat := if n < 1 then 17 else if n < 4 then 21 else if n < 6 then 18 else if n < 10 then 20 else 1
theorem gHomeN_sh {j : Nat} (h1 : ¬ j < 2) (h2 : j < 8) : gHomeN j = j := by unfold gHomeN; rw [if_neg h1, if_pos h2]
theorem gHomeN_sl {j : Nat} (h1 : ¬ j < 2) (h2 : j < 8) : gHomeN (6 + j) = j := by
  unfold gHomeN
  rw [if_neg (by omega), if_neg (by omega), if_pos (by omega)]
  omega
theorem gHomeN_uc {j : Nat} (h1 : ¬ j < 8) (h2 : j < 16) : gHomeN (6 + j) = j := by
  unfold gHomeN
  rw [if_neg (by omega), if_neg (by omega), if_neg (by omega), if_pos (by omega)]
  omega
theorem gHomeN_ud {j : Nat} (h1 : ¬ j < 8) (h2 : j < 16) : gHomeN (14 + j) = j := by
  unfold gHomeN
  rw [if_neg (by omega), if_neg (by omega), if_neg (by omega), if_neg (by omega), if_pos (by omega)]
  omega
theorem gFld_sh (a : Nat → Nat) (σ : GS) {k : Nat} (h1 : ¬ k < 2) (h2 : k < 8) : gFld a σ k = (6, [.ref (a (80 + k)), .int (gN σ k), .int (gN σ (6 + k))]) := by
  unfold gFld
  rw [if_neg (by omega), if_neg (by omega), if_pos h2]
theorem gFld_ur (a : Nat → Nat) (σ : GS) {k : Nat} (h1 : ¬ k < 8) (h2 : k < 16) : gFld a σ k = (7, [.ref (a (14 + k)), .ref (a (22 + k)), .ref (a (30 + k)), .int (gN σ (6 + k)), .int (gN σ (14 + k))]) := by
  unfold gFld
  rw [if_neg (by omega), if_neg (by omega), if_neg h1, if_pos h2]
theorem gCases {j : Nat} (hj : j < 22) : j = 0 ∨ j = 1 ∨ (¬ j < 2 ∧ j < 8) ∨ (¬ j < 8 ∧ j < 16) ∨ j = 16 ∨ j = 17 ∨ j = 18 ∨ j = 19 ∨ j = 20 ∨ j = 21 := by omega
theorem gFld_uN (a : Nat → Nat) (σ : GS) (n : Nat) (v : Int32) (j : Nat) (hj : j < 22) (h : j ≠ gHomeN n) : gFld a (uN σ n v) j = gFld a σ j := by
  have hh : ∀ m : Nat, gHomeN m = j → gN (uN σ n v) m = gN σ m := fun m hm => by
    rw [gN_uN, if_neg (fun e => h (by rw [← e]; exact hm.symm))]
  rcases gCases hj with rfl | rfl | ⟨h1, h2⟩ | ⟨h1, h2⟩ | rfl | rfl | rfl | rfl | rfl | rfl
  · show (8, [_, _, _, _, _, _, _, _, Value.int (gN (uN σ n v) 0), Value.int (gN (uN σ n v) 1)]) = _
    rw [hh 0 rfl, hh 1 rfl]
    rfl
  · show (9, gFldM a (uN σ n v)) = (9, gFldM a σ)
    unfold gFldM
    rw [hh 33 rfl, hh 34 rfl, hh 35 rfl, hh 36 rfl]
    rfl
  · rw [gFld_sh a _ h1 h2, gFld_sh a _ h1 h2, hh j (gHomeN_sh h1 h2), hh (6 + j) (gHomeN_sl h1 h2)]
  · rw [gFld_ur a _ h1 h2, gFld_ur a _ h1 h2, hh (6 + j) (gHomeN_uc h1 h2), hh (14 + j) (gHomeN_ud h1 h2)]
  · show (2, [_, Value.int (gN (uN σ n v) 30), Value.int (gN (uN σ n v) 31)]) = _
    rw [hh 30 rfl, hh 31 rfl]
    rfl
  · show (4, [_, _, Value.int (gN (uN σ n v) 32), _]) = _
    rw [hh 32 rfl]
    rfl
  · rfl
  · rfl
  · rfl
  · rfl
theorem gFld_uG (a : Nat → Nat) (σ : GS) (n : Nat) (v : Int64) (j : Nat) (hj : j < 22) (h : j ≠ gHomeG n) : gFld a (uG σ n v) j = gFld a σ j := by
  have hh : ∀ m : Nat, gHomeG m = j → gG (uG σ n v) m = gG σ m := fun m hm => by
    rw [gG_uG, if_neg (fun e => h (by rw [← e]; exact hm.symm))]
  rcases gCases hj with rfl | rfl | ⟨h1, h2⟩ | ⟨h1, h2⟩ | rfl | rfl | rfl | rfl | rfl | rfl
  · rfl
  · show (9, gFldM a (uG σ n v)) = (9, gFldM a σ)
    unfold gFldM
    rw [hh 10 rfl, hh 11 rfl, hh 12 rfl, hh 13 rfl, hh 14 rfl, hh 15 rfl, hh 16 rfl]
    rfl
  · rw [gFld_sh a _ h1 h2, gFld_sh a _ h1 h2]
    rfl
  · rw [gFld_ur a _ h1 h2, gFld_ur a _ h1 h2]
    rfl
  · rfl
  · show (4, [_, _, _, Value.long (gG (uG σ n v) 0)]) = _
    rw [hh 0 rfl]
    rfl
  · show (5, [_, Value.long (gG (uG σ n v) 4), Value.long (gG (uG σ n v) 5)]) = _
    rw [hh 4 rfl, hh 5 rfl]
    rfl
  · rfl
  · show (0, [_, _, _, _, _, _, _, Value.long (gG (uG σ n v) 6), Value.long (gG (uG σ n v) 7), Value.long (gG (uG σ n v) 8), Value.long (gG (uG σ n v) 9)]) = _
    rw [hh 6 rfl, hh 7 rfl, hh 8 rfl, hh 9 rfl]
    rfl
  · show (1, [Value.long (gG (uG σ n v) 1), Value.long (gG (uG σ n v) 2), Value.long (gG (uG σ n v) 3)]) = _
    rw [hh 1 rfl, hh 2 rfl, hh 3 rfl]
    rfl
theorem wG_setN (δ : GD) (σ : GS) (n : Nat) (v : Int32) {e : Nat × List Value} (hq : gHomeN n < 22) (he : gFld δ.2.2.1 (uN σ n v) (gHomeN n) = e) : (wG δ σ).set (gHomeN n) (δ.2.2.1 (gHomeN n), .inr e) = wG δ (uN σ n v) :=
  wG_setO δ hq rfl rfl he (fun j hj h => gFld_uN _ _ _ _ _ hj h)
theorem wG_setG (δ : GD) (σ : GS) (n : Nat) (v : Int64) {e : Nat × List Value} (hq : gHomeG n < 22) (he : gFld δ.2.2.1 (uG σ n v) (gHomeG n) = e) : (wG δ σ).set (gHomeG n) (δ.2.2.1 (gHomeG n), .inr e) = wG δ (uG σ n v) :=
  wG_setO δ hq rfl rfl he (fun j hj h => gFld_uG _ _ _ _ _ hj h)
end
section
theorem dX0_init_0 : decode cX0_init 0 = .ok (.aload_n 0, 1) := by decide +kernel
theorem dX0_init_1 : decode cX0_init 1 = .ok (.invokespecial 3, 3) := by decide +kernel
theorem dX0_init_4 : decode cX0_init 4 = .ok (.aload_n 0, 1) := by decide +kernel
theorem dX0_init_5 : decode cX0_init 5 = .ok (.sipush 2197, 3) := by decide +kernel
theorem dX0_init_8 : decode cX0_init 8 = .ok (.newarray .long, 2) := by decide +kernel
theorem dX0_init_10 : decode cX0_init 10 = .ok (.putfield 11, 3) := by decide +kernel
theorem dX0_init_13 : decode cX0_init 13 = .ok (.aload_n 0, 1) := by decide +kernel
theorem dX0_init_14 : decode cX0_init 14 = .ok (.sipush 2197, 3) := by decide +kernel
theorem dX0_init_17 : decode cX0_init 17 = .ok (.newarray .long, 2) := by decide +kernel
theorem dX0_init_19 : decode cX0_init 19 = .ok (.putfield 15, 3) := by decide +kernel
theorem dX0_init_22 : decode cX0_init 22 = .ok (.aload_n 0, 1) := by decide +kernel
theorem dX0_init_23 : decode cX0_init 23 = .ok (.bipush 12, 2) := by decide +kernel
theorem dX0_init_25 : decode cX0_init 25 = .ok (.newarray .int, 2) := by decide +kernel
theorem dX0_init_27 : decode cX0_init 27 = .ok (.putfield 18, 3) := by decide +kernel
theorem dX0_init_30 : decode cX0_init 30 = .ok (.aload_n 0, 1) := by decide +kernel
theorem dX0_init_31 : decode cX0_init 31 = .ok (.iconst 4, 1) := by decide +kernel
theorem dX0_init_32 : decode cX0_init 32 = .ok (.newarray .int, 2) := by decide +kernel
theorem dX0_init_34 : decode cX0_init 34 = .ok (.putfield 22, 3) := by decide +kernel
theorem dX0_init_37 : decode cX0_init 37 = .ok (.aload_n 0, 1) := by decide +kernel
theorem dX0_init_38 : decode cX0_init 38 = .ok (.iconst 4, 1) := by decide +kernel
theorem dX0_init_39 : decode cX0_init 39 = .ok (.newarray .int, 2) := by decide +kernel
theorem dX0_init_41 : decode cX0_init 41 = .ok (.putfield 25, 3) := by decide +kernel
theorem dX0_init_44 : decode cX0_init 44 = .ok (.aload_n 0, 1) := by decide +kernel
theorem dX0_init_45 : decode cX0_init 45 = .ok (.bipush 13, 2) := by decide +kernel
theorem dX0_init_47 : decode cX0_init 47 = .ok (.newarray .long, 2) := by decide +kernel
theorem dX0_init_49 : decode cX0_init 49 = .ok (.putfield 28, 3) := by decide +kernel
theorem dX0_init_52 : decode cX0_init 52 = .ok (.aload_n 0, 1) := by decide +kernel
theorem dX0_init_53 : decode cX0_init 53 = .ok (.sipush 201, 3) := by decide +kernel
theorem dX0_init_56 : decode cX0_init 56 = .ok (.newarray .long, 2) := by decide +kernel
theorem dX0_init_58 : decode cX0_init 58 = .ok (.putfield 31, 3) := by decide +kernel
theorem dX0_init_61 : decode cX0_init 61 = .ok (.aload_n 0, 1) := by decide +kernel
theorem dX0_init_62 : decode cX0_init 62 = .ok (.lconst 0, 1) := by decide +kernel
theorem dX0_init_63 : decode cX0_init 63 = .ok (.putfield 34, 3) := by decide +kernel
theorem dX0_init_66 : decode cX0_init 66 = .ok (.aload_n 0, 1) := by decide +kernel
theorem dX0_init_67 : decode cX0_init 67 = .ok (.lconst 1, 1) := by decide +kernel
theorem dX0_init_68 : decode cX0_init 68 = .ok (.putfield 38, 3) := by decide +kernel
theorem dX0_init_71 : decode cX0_init 71 = .ok (.aload_n 0, 1) := by decide +kernel
theorem dX0_init_72 : decode cX0_init 72 = .ok (.lconst 0, 1) := by decide +kernel
theorem dX0_init_73 : decode cX0_init 73 = .ok (.putfield 41, 3) := by decide +kernel
theorem dX0_init_76 : decode cX0_init 76 = .ok (.aload_n 0, 1) := by decide +kernel
theorem dX0_init_77 : decode cX0_init 77 = .ok (.lconst 0, 1) := by decide +kernel
theorem dX0_init_78 : decode cX0_init 78 = .ok (.putfield 44, 3) := by decide +kernel
theorem dX0_init_81 : decode cX0_init 81 = .ok (.return_, 1) := by decide +kernel
theorem dX0_letAny_0 : decode cX0_letAny 0 = .ok (.aload_n 0, 1) := by decide +kernel
theorem dX0_letAny_1 : decode cX0_letAny 1 = .ok (.getfield 18, 3) := by decide +kernel
theorem dX0_letAny_4 : decode cX0_letAny 4 = .ok (.iconst (-1), 1) := by decide +kernel
theorem dX0_letAny_5 : decode cX0_letAny 5 = .ok (.invokestatic 47, 3) := by decide +kernel
theorem dX0_letAny_8 : decode cX0_letAny 8 = .ok (.return_, 1) := by decide +kernel
theorem dX0_letOnly_0 : decode cX0_letOnly 0 = .ok (.aload_n 0, 1) := by decide +kernel
theorem dX0_letOnly_1 : decode cX0_letOnly 1 = .ok (.getfield 18, 3) := by decide +kernel
theorem dX0_letOnly_4 : decode cX0_letOnly 4 = .ok (.iload_n 1, 1) := by decide +kernel
theorem dX0_letOnly_5 : decode cX0_letOnly 5 = .ok (.iconst 1, 1) := by decide +kernel
theorem dX0_letOnly_6 : decode cX0_letOnly 6 = .ok (.isub, 1) := by decide +kernel
theorem dX0_letOnly_7 : decode cX0_letOnly 7 = .ok (.iload_n 2, 1) := by decide +kernel
theorem dX0_letOnly_8 : decode cX0_letOnly 8 = .ok (.iastore, 1) := by decide +kernel
theorem dX0_letOnly_9 : decode cX0_letOnly 9 = .ok (.return_, 1) := by decide +kernel
theorem dX0_findBelow_0 : decode cX0_findBelow 0 = .ok (.aload_n 0, 1) := by decide +kernel
theorem dX0_findBelow_1 : decode cX0_findBelow 1 = .ok (.lconst 1, 1) := by decide +kernel
theorem dX0_findBelow_2 : decode cX0_findBelow 2 = .ok (.putfield 38, 3) := by decide +kernel
theorem dX0_findBelow_5 : decode cX0_findBelow 5 = .ok (.iconst 0, 1) := by decide +kernel
theorem dX0_findBelow_6 : decode cX0_findBelow 6 = .ok (.istore_n 3, 1) := by decide +kernel
theorem dX0_findBelow_7 : decode cX0_findBelow 7 = .ok (.iload_n 3, 1) := by decide +kernel
theorem dX0_findBelow_8 : decode cX0_findBelow 8 = .ok (.iload_n 2, 1) := by decide +kernel
theorem dX0_findBelow_9 : decode cX0_findBelow 9 = .ok (.if_icmp .ge 43, 3) := by decide +kernel
theorem dX0_findBelow_12 : decode cX0_findBelow 12 = .ok (.aload_n 1, 1) := by decide +kernel
theorem dX0_findBelow_13 : decode cX0_findBelow 13 = .ok (.iload_n 3, 1) := by decide +kernel
theorem dX0_findBelow_14 : decode cX0_findBelow 14 = .ok (.invokestatic 53, 3) := by decide +kernel
theorem dX0_findBelow_17 : decode cX0_findBelow 17 = .ok (.lstore 4, 2) := by decide +kernel
theorem dX0_findBelow_19 : decode cX0_findBelow 19 = .ok (.aload_n 0, 1) := by decide +kernel
theorem dX0_findBelow_20 : decode cX0_findBelow 20 = .ok (.getfield 38, 3) := by decide +kernel
theorem dX0_findBelow_23 : decode cX0_findBelow 23 = .ok (.ldc2_w 57, 3) := by decide +kernel
theorem dX0_findBelow_26 : decode cX0_findBelow 26 = .ok (.lload 4, 2) := by decide +kernel
theorem dX0_findBelow_28 : decode cX0_findBelow 28 = .ok (.ldiv, 1) := by decide +kernel
theorem dX0_findBelow_29 : decode cX0_findBelow 29 = .ok (.lcmp, 1) := by decide +kernel
theorem dX0_findBelow_30 : decode cX0_findBelow 30 = .ok (.ifCond .le 5, 3) := by decide +kernel
theorem dX0_findBelow_33 : decode cX0_findBelow 33 = .ok (.iconst 0, 1) := by decide +kernel
theorem dX0_findBelow_34 : decode cX0_findBelow 34 = .ok (.ireturn, 1) := by decide +kernel
theorem dX0_findBelow_35 : decode cX0_findBelow 35 = .ok (.aload_n 0, 1) := by decide +kernel
theorem dX0_findBelow_36 : decode cX0_findBelow 36 = .ok (.dup, 1) := by decide +kernel
theorem dX0_findBelow_37 : decode cX0_findBelow 37 = .ok (.getfield 38, 3) := by decide +kernel
theorem dX0_findBelow_40 : decode cX0_findBelow 40 = .ok (.lload 4, 2) := by decide +kernel
theorem dX0_findBelow_42 : decode cX0_findBelow 42 = .ok (.lmul, 1) := by decide +kernel
theorem dX0_findBelow_43 : decode cX0_findBelow 43 = .ok (.putfield 38, 3) := by decide +kernel
theorem dX0_findBelow_46 : decode cX0_findBelow 46 = .ok (.iinc 3 1, 3) := by decide +kernel
theorem dX0_findBelow_49 : decode cX0_findBelow 49 = .ok (.goto (-42), 3) := by decide +kernel
theorem dX0_findBelow_52 : decode cX0_findBelow 52 = .ok (.iconst 1, 1) := by decide +kernel
theorem dX0_findBelow_53 : decode cX0_findBelow 53 = .ok (.ireturn, 1) := by decide +kernel
theorem dX0_factorAt_0 : decode cX0_factorAt 0 = .ok (.aload_n 0, 1) := by decide +kernel
theorem dX0_factorAt_1 : decode cX0_factorAt 1 = .ok (.invokevirtual 59, 3) := by decide +kernel
theorem dX0_factorAt_4 : decode cX0_factorAt 4 = .ok (.iload_n 1, 1) := by decide +kernel
theorem dX0_factorAt_5 : decode cX0_factorAt 5 = .ok (.aload_n 0, 1) := by decide +kernel
theorem dX0_factorAt_6 : decode cX0_factorAt 6 = .ok (.iconst 0, 1) := by decide +kernel
theorem dX0_factorAt_7 : decode cX0_factorAt 7 = .ok (.invokevirtual 65, 3) := by decide +kernel
theorem dX0_factorAt_10 : decode cX0_factorAt 10 = .ok (.imul, 1) := by decide +kernel
theorem dX0_factorAt_11 : decode cX0_factorAt 11 = .ok (.iadd, 1) := by decide +kernel
theorem dX0_factorAt_12 : decode cX0_factorAt 12 = .ok (.istore_n 2, 1) := by decide +kernel
theorem dX0_factorAt_13 : decode cX0_factorAt 13 = .ok (.iload_n 2, 1) := by decide +kernel
theorem dX0_factorAt_14 : decode cX0_factorAt 14 = .ok (.ifCond .le 8, 3) := by decide +kernel
theorem dX0_factorAt_17 : decode cX0_factorAt 17 = .ok (.iload_n 2, 1) := by decide +kernel
theorem dX0_factorAt_18 : decode cX0_factorAt 18 = .ok (.i2l, 1) := by decide +kernel
theorem dX0_factorAt_19 : decode cX0_factorAt 19 = .ok (.goto 4, 3) := by decide +kernel
theorem dX0_factorAt_22 : decode cX0_factorAt 22 = .ok (.lconst 1, 1) := by decide +kernel
theorem dX0_factorAt_23 : decode cX0_factorAt 23 = .ok (.lreturn, 1) := by decide +kernel
theorem dX0_countRows_0 : decode cX0_countRows 0 = .ok (.aload_n 0, 1) := by decide +kernel
theorem dX0_countRows_1 : decode cX0_countRows 1 = .ok (.aload_n 1, 1) := by decide +kernel
theorem dX0_countRows_2 : decode cX0_countRows 2 = .ok (.iload_n 2, 1) := by decide +kernel
theorem dX0_countRows_3 : decode cX0_countRows 3 = .ok (.iconst 0, 1) := by decide +kernel
theorem dX0_countRows_4 : decode cX0_countRows 4 = .ok (.iconst 0, 1) := by decide +kernel
theorem dX0_countRows_5 : decode cX0_countRows 5 = .ok (.invokevirtual 69, 3) := by decide +kernel
theorem dX0_countRows_8 : decode cX0_countRows 8 = .ok (.aload_n 0, 1) := by decide +kernel
theorem dX0_countRows_9 : decode cX0_countRows 9 = .ok (.invokevirtual 73, 3) := by decide +kernel
theorem dX0_countRows_12 : decode cX0_countRows 12 = .ok (.lreturn, 1) := by decide +kernel
theorem dX0_weigh_0 : decode cX0_weigh 0 = .ok (.aload_n 0, 1) := by decide +kernel
theorem dX0_weigh_1 : decode cX0_weigh 1 = .ok (.aload_n 1, 1) := by decide +kernel
theorem dX0_weigh_2 : decode cX0_weigh 2 = .ok (.iload_n 2, 1) := by decide +kernel
theorem dX0_weigh_3 : decode cX0_weigh 3 = .ok (.iload_n 3, 1) := by decide +kernel
theorem dX0_weigh_4 : decode cX0_weigh 4 = .ok (.iconst 1, 1) := by decide +kernel
theorem dX0_weigh_5 : decode cX0_weigh 5 = .ok (.invokevirtual 69, 3) := by decide +kernel
theorem dX0_weigh_8 : decode cX0_weigh 8 = .ok (.return_, 1) := by decide +kernel
theorem dX0_through_0 : decode cX0_through 0 = .ok (.lconst 0, 1) := by decide +kernel
theorem dX0_through_1 : decode cX0_through 1 = .ok (.lstore_n 1, 1) := by decide +kernel
theorem dX0_through_2 : decode cX0_through 2 = .ok (.aload_n 0, 1) := by decide +kernel
theorem dX0_through_3 : decode cX0_through 3 = .ok (.getfield 28, 3) := by decide +kernel
theorem dX0_through_6 : decode cX0_through 6 = .ok (.astore_n 3, 1) := by decide +kernel
theorem dX0_through_7 : decode cX0_through 7 = .ok (.aload_n 3, 1) := by decide +kernel
theorem dX0_through_8 : decode cX0_through 8 = .ok (.arraylength, 1) := by decide +kernel
theorem dX0_through_9 : decode cX0_through 9 = .ok (.istore 4, 2) := by decide +kernel
theorem dX0_through_11 : decode cX0_through 11 = .ok (.iconst 0, 1) := by decide +kernel
theorem dX0_through_12 : decode cX0_through 12 = .ok (.istore 5, 2) := by decide +kernel
theorem dX0_through_14 : decode cX0_through 14 = .ok (.iload 5, 2) := by decide +kernel
theorem dX0_through_16 : decode cX0_through 16 = .ok (.iload 4, 2) := by decide +kernel
theorem dX0_through_18 : decode cX0_through 18 = .ok (.if_icmp .ge 20, 3) := by decide +kernel
theorem dX0_through_21 : decode cX0_through 21 = .ok (.aload_n 3, 1) := by decide +kernel
theorem dX0_through_22 : decode cX0_through 22 = .ok (.iload 5, 2) := by decide +kernel
theorem dX0_through_24 : decode cX0_through 24 = .ok (.laload, 1) := by decide +kernel
theorem dX0_through_25 : decode cX0_through 25 = .ok (.lstore 6, 2) := by decide +kernel
theorem dX0_through_27 : decode cX0_through 27 = .ok (.lload_n 1, 1) := by decide +kernel
theorem dX0_through_28 : decode cX0_through 28 = .ok (.lload 6, 2) := by decide +kernel
theorem dX0_through_30 : decode cX0_through 30 = .ok (.ladd, 1) := by decide +kernel
theorem dX0_through_31 : decode cX0_through 31 = .ok (.lstore_n 1, 1) := by decide +kernel
theorem dX0_through_32 : decode cX0_through 32 = .ok (.iinc 5 1, 3) := by decide +kernel
theorem dX0_through_35 : decode cX0_through 35 = .ok (.goto (-21), 3) := by decide +kernel
theorem dX0_through_38 : decode cX0_through 38 = .ok (.lload_n 1, 1) := by decide +kernel
theorem dX0_through_39 : decode cX0_through 39 = .ok (.lreturn, 1) := by decide +kernel
theorem dX0_findMean_0 : decode cX0_findMean 0 = .ok (.aload_n 0, 1) := by decide +kernel
theorem dX0_findMean_1 : decode cX0_findMean 1 = .ok (.lconst 0, 1) := by decide +kernel
theorem dX0_findMean_2 : decode cX0_findMean 2 = .ok (.putfield 41, 3) := by decide +kernel
theorem dX0_findMean_5 : decode cX0_findMean 5 = .ok (.aload_n 0, 1) := by decide +kernel
theorem dX0_findMean_6 : decode cX0_findMean 6 = .ok (.lconst 0, 1) := by decide +kernel
theorem dX0_findMean_7 : decode cX0_findMean 7 = .ok (.putfield 44, 3) := by decide +kernel
theorem dX0_findMean_10 : decode cX0_findMean 10 = .ok (.aload_n 0, 1) := by decide +kernel
theorem dX0_findMean_11 : decode cX0_findMean 11 = .ok (.getfield 38, 3) := by decide +kernel
theorem dX0_findMean_14 : decode cX0_findMean 14 = .ok (.lconst 1, 1) := by decide +kernel
theorem dX0_findMean_15 : decode cX0_findMean 15 = .ok (.lcmp, 1) := by decide +kernel
theorem dX0_findMean_16 : decode cX0_findMean 16 = .ok (.ifCond .ge 4, 3) := by decide +kernel
theorem dX0_findMean_19 : decode cX0_findMean 19 = .ok (.return_, 1) := by decide +kernel
theorem dX0_findMean_20 : decode cX0_findMean 20 = .ok (.iconst 1, 1) := by decide +kernel
theorem dX0_findMean_21 : decode cX0_findMean 21 = .ok (.istore_n 2, 1) := by decide +kernel
theorem dX0_findMean_22 : decode cX0_findMean 22 = .ok (.iload_n 2, 1) := by decide +kernel
theorem dX0_findMean_23 : decode cX0_findMean 23 = .ok (.sipush 200, 3) := by decide +kernel
theorem dX0_findMean_26 : decode cX0_findMean 26 = .ok (.if_icmp .gt 111, 3) := by decide +kernel
theorem dX0_findMean_29 : decode cX0_findMean 29 = .ok (.lconst 0, 1) := by decide +kernel
theorem dX0_findMean_30 : decode cX0_findMean 30 = .ok (.lstore_n 3, 1) := by decide +kernel
theorem dX0_findMean_31 : decode cX0_findMean 31 = .ok (.aload_n 0, 1) := by decide +kernel
theorem dX0_findMean_32 : decode cX0_findMean 32 = .ok (.getfield 31, 3) := by decide +kernel
theorem dX0_findMean_35 : decode cX0_findMean 35 = .ok (.iload_n 2, 1) := by decide +kernel
theorem dX0_findMean_36 : decode cX0_findMean 36 = .ok (.laload, 1) := by decide +kernel
theorem dX0_findMean_37 : decode cX0_findMean 37 = .ok (.lstore 5, 2) := by decide +kernel
theorem dX0_findMean_39 : decode cX0_findMean 39 = .ok (.iconst 0, 1) := by decide +kernel
theorem dX0_findMean_40 : decode cX0_findMean 40 = .ok (.istore 7, 2) := by decide +kernel
theorem dX0_findMean_42 : decode cX0_findMean 42 = .ok (.iload 7, 2) := by decide +kernel
theorem dX0_findMean_44 : decode cX0_findMean 44 = .ok (.iload_n 1, 1) := by decide +kernel
theorem dX0_findMean_45 : decode cX0_findMean 45 = .ok (.if_icmp .ge 47, 3) := by decide +kernel
theorem dX0_findMean_48 : decode cX0_findMean 48 = .ok (.lload 5, 2) := by decide +kernel
theorem dX0_findMean_50 : decode cX0_findMean 50 = .ok (.lload_n 3, 1) := by decide +kernel
theorem dX0_findMean_51 : decode cX0_findMean 51 = .ok (.ladd, 1) := by decide +kernel
theorem dX0_findMean_52 : decode cX0_findMean 52 = .ok (.lconst 0, 1) := by decide +kernel
theorem dX0_findMean_53 : decode cX0_findMean 53 = .ok (.lcmp, 1) := by decide +kernel
theorem dX0_findMean_54 : decode cX0_findMean 54 = .ok (.ifCond .le 38, 3) := by decide +kernel
theorem dX0_findMean_57 : decode cX0_findMean 57 = .ok (.lload 5, 2) := by decide +kernel
theorem dX0_findMean_59 : decode cX0_findMean 59 = .ok (.iload_n 2, 1) := by decide +kernel
theorem dX0_findMean_60 : decode cX0_findMean 60 = .ok (.i2l, 1) := by decide +kernel
theorem dX0_findMean_61 : decode cX0_findMean 61 = .ok (.lmul, 1) := by decide +kernel
theorem dX0_findMean_62 : decode cX0_findMean 62 = .ok (.lstore 8, 2) := by decide +kernel
theorem dX0_findMean_64 : decode cX0_findMean 64 = .ok (.lload_n 3, 1) := by decide +kernel
theorem dX0_findMean_65 : decode cX0_findMean 65 = .ok (.iload_n 2, 1) := by decide +kernel
theorem dX0_findMean_66 : decode cX0_findMean 66 = .ok (.i2l, 1) := by decide +kernel
theorem dX0_findMean_67 : decode cX0_findMean 67 = .ok (.lmul, 1) := by decide +kernel
theorem dX0_findMean_68 : decode cX0_findMean 68 = .ok (.lload 8, 2) := by decide +kernel
theorem dX0_findMean_70 : decode cX0_findMean 70 = .ok (.aload_n 0, 1) := by decide +kernel
theorem dX0_findMean_71 : decode cX0_findMean 71 = .ok (.getfield 38, 3) := by decide +kernel
theorem dX0_findMean_74 : decode cX0_findMean 74 = .ok (.ldiv, 1) := by decide +kernel
theorem dX0_findMean_75 : decode cX0_findMean 75 = .ok (.ladd, 1) := by decide +kernel
theorem dX0_findMean_76 : decode cX0_findMean 76 = .ok (.lstore_n 3, 1) := by decide +kernel
theorem dX0_findMean_77 : decode cX0_findMean 77 = .ok (.lload 8, 2) := by decide +kernel
theorem dX0_findMean_79 : decode cX0_findMean 79 = .ok (.aload_n 0, 1) := by decide +kernel
theorem dX0_findMean_80 : decode cX0_findMean 80 = .ok (.getfield 38, 3) := by decide +kernel
theorem dX0_findMean_83 : decode cX0_findMean 83 = .ok (.lrem, 1) := by decide +kernel
theorem dX0_findMean_84 : decode cX0_findMean 84 = .ok (.lstore 5, 2) := by decide +kernel
theorem dX0_findMean_86 : decode cX0_findMean 86 = .ok (.iinc 7 1, 3) := by decide +kernel
theorem dX0_findMean_89 : decode cX0_findMean 89 = .ok (.goto (-47), 3) := by decide +kernel
theorem dX0_findMean_92 : decode cX0_findMean 92 = .ok (.aload_n 0, 1) := by decide +kernel
theorem dX0_findMean_93 : decode cX0_findMean 93 = .ok (.dup, 1) := by decide +kernel
theorem dX0_findMean_94 : decode cX0_findMean 94 = .ok (.getfield 41, 3) := by decide +kernel
theorem dX0_findMean_97 : decode cX0_findMean 97 = .ok (.lload_n 3, 1) := by decide +kernel
theorem dX0_findMean_98 : decode cX0_findMean 98 = .ok (.aload_n 0, 1) := by decide +kernel
theorem dX0_findMean_99 : decode cX0_findMean 99 = .ok (.getfield 44, 3) := by decide +kernel
theorem dX0_findMean_102 : decode cX0_findMean 102 = .ok (.lload 5, 2) := by decide +kernel
theorem dX0_findMean_104 : decode cX0_findMean 104 = .ok (.ladd, 1) := by decide +kernel
theorem dX0_findMean_105 : decode cX0_findMean 105 = .ok (.aload_n 0, 1) := by decide +kernel
theorem dX0_findMean_106 : decode cX0_findMean 106 = .ok (.getfield 38, 3) := by decide +kernel
theorem dX0_findMean_109 : decode cX0_findMean 109 = .ok (.ldiv, 1) := by decide +kernel
theorem dX0_findMean_110 : decode cX0_findMean 110 = .ok (.ladd, 1) := by decide +kernel
theorem dX0_findMean_111 : decode cX0_findMean 111 = .ok (.ladd, 1) := by decide +kernel
theorem dX0_findMean_112 : decode cX0_findMean 112 = .ok (.putfield 41, 3) := by decide +kernel
theorem dX0_findMean_115 : decode cX0_findMean 115 = .ok (.aload_n 0, 1) := by decide +kernel
theorem dX0_findMean_116 : decode cX0_findMean 116 = .ok (.aload_n 0, 1) := by decide +kernel
theorem dX0_findMean_117 : decode cX0_findMean 117 = .ok (.getfield 44, 3) := by decide +kernel
theorem dX0_findMean_120 : decode cX0_findMean 120 = .ok (.lload 5, 2) := by decide +kernel
theorem dX0_findMean_122 : decode cX0_findMean 122 = .ok (.ladd, 1) := by decide +kernel
theorem dX0_findMean_123 : decode cX0_findMean 123 = .ok (.aload_n 0, 1) := by decide +kernel
theorem dX0_findMean_124 : decode cX0_findMean 124 = .ok (.getfield 38, 3) := by decide +kernel
theorem dX0_findMean_127 : decode cX0_findMean 127 = .ok (.lrem, 1) := by decide +kernel
theorem dX0_findMean_128 : decode cX0_findMean 128 = .ok (.putfield 44, 3) := by decide +kernel
theorem dX0_findMean_131 : decode cX0_findMean 131 = .ok (.iinc 2 1, 3) := by decide +kernel
theorem dX0_findMean_134 : decode cX0_findMean 134 = .ok (.goto (-112), 3) := by decide +kernel
theorem dX0_findMean_137 : decode cX0_findMean 137 = .ok (.return_, 1) := by decide +kernel
theorem dX0_walk_0 : decode cX0_walk 0 = .ok (.aload_n 0, 1) := by decide +kernel
theorem dX0_walk_1 : decode cX0_walk 1 = .ok (.getfield 28, 3) := by decide +kernel
theorem dX0_walk_4 : decode cX0_walk 4 = .ok (.lconst 0, 1) := by decide +kernel
theorem dX0_walk_5 : decode cX0_walk 5 = .ok (.invokestatic 77, 3) := by decide +kernel
theorem dX0_walk_8 : decode cX0_walk 8 = .ok (.aload_n 0, 1) := by decide +kernel
theorem dX0_walk_9 : decode cX0_walk 9 = .ok (.lconst 0, 1) := by decide +kernel
theorem dX0_walk_10 : decode cX0_walk 10 = .ok (.putfield 34, 3) := by decide +kernel
theorem dX0_walk_13 : decode cX0_walk 13 = .ok (.aload_n 0, 1) := by decide +kernel
theorem dX0_walk_14 : decode cX0_walk 14 = .ok (.getfield 31, 3) := by decide +kernel
theorem dX0_walk_17 : decode cX0_walk 17 = .ok (.lconst 0, 1) := by decide +kernel
theorem dX0_walk_18 : decode cX0_walk 18 = .ok (.invokestatic 77, 3) := by decide +kernel
theorem dX0_walk_21 : decode cX0_walk 21 = .ok (.aload_n 0, 1) := by decide +kernel
theorem dX0_walk_22 : decode cX0_walk 22 = .ok (.getfield 11, 3) := by decide +kernel
theorem dX0_walk_25 : decode cX0_walk 25 = .ok (.iconst 0, 1) := by decide +kernel
theorem dX0_walk_26 : decode cX0_walk 26 = .ok (.lconst 1, 1) := by decide +kernel
theorem dX0_walk_27 : decode cX0_walk 27 = .ok (.lastore, 1) := by decide +kernel
theorem dX0_walk_28 : decode cX0_walk 28 = .ok (.iconst 0, 1) := by decide +kernel
theorem dX0_walk_29 : decode cX0_walk 29 = .ok (.istore 5, 2) := by decide +kernel
theorem dX0_walk_31 : decode cX0_walk 31 = .ok (.iload 5, 2) := by decide +kernel
theorem dX0_walk_33 : decode cX0_walk 33 = .ok (.iload_n 2, 1) := by decide +kernel
theorem dX0_walk_34 : decode cX0_walk 34 = .ok (.if_icmp .gt 61, 3) := by decide +kernel
theorem dX0_walk_37 : decode cX0_walk 37 = .ok (.iload 5, 2) := by decide +kernel
theorem dX0_walk_39 : decode cX0_walk 39 = .ok (.iload_n 2, 1) := by decide +kernel
theorem dX0_walk_40 : decode cX0_walk 40 = .ok (.if_icmp .ge 18, 3) := by decide +kernel
theorem dX0_walk_43 : decode cX0_walk 43 = .ok (.aload_n 0, 1) := by decide +kernel
theorem dX0_walk_44 : decode cX0_walk 44 = .ok (.dup, 1) := by decide +kernel
theorem dX0_walk_45 : decode cX0_walk 45 = .ok (.getfield 34, 3) := by decide +kernel
theorem dX0_walk_48 : decode cX0_walk 48 = .ok (.aload_n 1, 1) := by decide +kernel
theorem dX0_walk_49 : decode cX0_walk 49 = .ok (.iload 5, 2) := by decide +kernel
theorem dX0_walk_51 : decode cX0_walk 51 = .ok (.invokestatic 53, 3) := by decide +kernel
theorem dX0_walk_54 : decode cX0_walk 54 = .ok (.lmul, 1) := by decide +kernel
theorem dX0_walk_55 : decode cX0_walk 55 = .ok (.putfield 34, 3) := by decide +kernel
theorem dX0_walk_58 : decode cX0_walk 58 = .ok (.aload_n 0, 1) := by decide +kernel
theorem dX0_walk_59 : decode cX0_walk 59 = .ok (.aload_n 1, 1) := by decide +kernel
theorem dX0_walk_60 : decode cX0_walk 60 = .ok (.iload 5, 2) := by decide +kernel
theorem dX0_walk_62 : decode cX0_walk 62 = .ok (.iload_n 2, 1) := by decide +kernel
theorem dX0_walk_63 : decode cX0_walk 63 = .ok (.iload_n 3, 1) := by decide +kernel
theorem dX0_walk_64 : decode cX0_walk 64 = .ok (.iload 4, 2) := by decide +kernel
theorem dX0_walk_66 : decode cX0_walk 66 = .ok (.invokevirtual 80, 3) := by decide +kernel
theorem dX0_walk_69 : decode cX0_walk 69 = .ok (.aload_n 0, 1) := by decide +kernel
theorem dX0_walk_70 : decode cX0_walk 70 = .ok (.getfield 11, 3) := by decide +kernel
theorem dX0_walk_73 : decode cX0_walk 73 = .ok (.astore 6, 2) := by decide +kernel
theorem dX0_walk_75 : decode cX0_walk 75 = .ok (.aload_n 0, 1) := by decide +kernel
theorem dX0_walk_76 : decode cX0_walk 76 = .ok (.aload_n 0, 1) := by decide +kernel
theorem dX0_walk_77 : decode cX0_walk 77 = .ok (.getfield 15, 3) := by decide +kernel
theorem dX0_walk_80 : decode cX0_walk 80 = .ok (.putfield 11, 3) := by decide +kernel
theorem dX0_walk_83 : decode cX0_walk 83 = .ok (.aload_n 0, 1) := by decide +kernel
theorem dX0_walk_84 : decode cX0_walk 84 = .ok (.aload 6, 2) := by decide +kernel
theorem dX0_walk_86 : decode cX0_walk 86 = .ok (.putfield 15, 3) := by decide +kernel
theorem dX0_walk_89 : decode cX0_walk 89 = .ok (.iinc 5 1, 3) := by decide +kernel
theorem dX0_walk_92 : decode cX0_walk 92 = .ok (.goto (-61), 3) := by decide +kernel
theorem dX0_walk_95 : decode cX0_walk 95 = .ok (.return_, 1) := by decide +kernel
theorem dX0_walkStep_0 : decode cX0_walkStep 0 = .ok (.iconst 0, 1) := by decide +kernel
theorem dX0_walkStep_1 : decode cX0_walkStep 1 = .ok (.istore 6, 2) := by decide +kernel
theorem dX0_walkStep_3 : decode cX0_walkStep 3 = .ok (.iload 6, 2) := by decide +kernel
theorem dX0_walkStep_5 : decode cX0_walkStep 5 = .ok (.iload_n 2, 1) := by decide +kernel
theorem dX0_walkStep_6 : decode cX0_walkStep 6 = .ok (.if_icmp .gt 193, 3) := by decide +kernel
theorem dX0_walkStep_9 : decode cX0_walkStep 9 = .ok (.iconst 0, 1) := by decide +kernel
theorem dX0_walkStep_10 : decode cX0_walkStep 10 = .ok (.istore 7, 2) := by decide +kernel
theorem dX0_walkStep_12 : decode cX0_walkStep 12 = .ok (.iload 6, 2) := by decide +kernel
theorem dX0_walkStep_14 : decode cX0_walkStep 14 = .ok (.iload 7, 2) := by decide +kernel
theorem dX0_walkStep_16 : decode cX0_walkStep 16 = .ok (.iadd, 1) := by decide +kernel
theorem dX0_walkStep_17 : decode cX0_walkStep 17 = .ok (.iload_n 2, 1) := by decide +kernel
theorem dX0_walkStep_18 : decode cX0_walkStep 18 = .ok (.if_icmp .gt 175, 3) := by decide +kernel
theorem dX0_walkStep_21 : decode cX0_walkStep 21 = .ok (.iconst 0, 1) := by decide +kernel
theorem dX0_walkStep_22 : decode cX0_walkStep 22 = .ok (.istore 8, 2) := by decide +kernel
theorem dX0_walkStep_24 : decode cX0_walkStep 24 = .ok (.iload 6, 2) := by decide +kernel
theorem dX0_walkStep_26 : decode cX0_walkStep 26 = .ok (.iload 7, 2) := by decide +kernel
theorem dX0_walkStep_28 : decode cX0_walkStep 28 = .ok (.iadd, 1) := by decide +kernel
theorem dX0_walkStep_29 : decode cX0_walkStep 29 = .ok (.iload 8, 2) := by decide +kernel
theorem dX0_walkStep_31 : decode cX0_walkStep 31 = .ok (.iadd, 1) := by decide +kernel
theorem dX0_walkStep_32 : decode cX0_walkStep 32 = .ok (.iload_n 2, 1) := by decide +kernel
theorem dX0_walkStep_33 : decode cX0_walkStep 33 = .ok (.if_icmp .gt 154, 3) := by decide +kernel
theorem dX0_walkStep_36 : decode cX0_walkStep 36 = .ok (.iload 6, 2) := by decide +kernel
theorem dX0_walkStep_38 : decode cX0_walkStep 38 = .ok (.getstatic 84, 3) := by decide +kernel
theorem dX0_walkStep_41 : decode cX0_walkStep 41 = .ok (.iconst 0, 1) := by decide +kernel
theorem dX0_walkStep_42 : decode cX0_walkStep 42 = .ok (.iaload, 1) := by decide +kernel
theorem dX0_walkStep_43 : decode cX0_walkStep 43 = .ok (.imul, 1) := by decide +kernel
theorem dX0_walkStep_44 : decode cX0_walkStep 44 = .ok (.iload 7, 2) := by decide +kernel
theorem dX0_walkStep_46 : decode cX0_walkStep 46 = .ok (.getstatic 84, 3) := by decide +kernel
theorem dX0_walkStep_49 : decode cX0_walkStep 49 = .ok (.iconst 1, 1) := by decide +kernel
theorem dX0_walkStep_50 : decode cX0_walkStep 50 = .ok (.iaload, 1) := by decide +kernel
theorem dX0_walkStep_51 : decode cX0_walkStep 51 = .ok (.imul, 1) := by decide +kernel
theorem dX0_walkStep_52 : decode cX0_walkStep 52 = .ok (.iadd, 1) := by decide +kernel
theorem dX0_walkStep_53 : decode cX0_walkStep 53 = .ok (.iload 8, 2) := by decide +kernel
theorem dX0_walkStep_55 : decode cX0_walkStep 55 = .ok (.getstatic 84, 3) := by decide +kernel
theorem dX0_walkStep_58 : decode cX0_walkStep 58 = .ok (.iconst 2, 1) := by decide +kernel
theorem dX0_walkStep_59 : decode cX0_walkStep 59 = .ok (.iaload, 1) := by decide +kernel
theorem dX0_walkStep_60 : decode cX0_walkStep 60 = .ok (.imul, 1) := by decide +kernel
theorem dX0_walkStep_61 : decode cX0_walkStep 61 = .ok (.iadd, 1) := by decide +kernel
theorem dX0_walkStep_62 : decode cX0_walkStep 62 = .ok (.istore 9, 2) := by decide +kernel
theorem dX0_walkStep_64 : decode cX0_walkStep 64 = .ok (.aload_n 0, 1) := by decide +kernel
theorem dX0_walkStep_65 : decode cX0_walkStep 65 = .ok (.getfield 11, 3) := by decide +kernel
theorem dX0_walkStep_68 : decode cX0_walkStep 68 = .ok (.iload 9, 2) := by decide +kernel
theorem dX0_walkStep_70 : decode cX0_walkStep 70 = .ok (.laload, 1) := by decide +kernel
theorem dX0_walkStep_71 : decode cX0_walkStep 71 = .ok (.lstore 10, 2) := by decide +kernel
theorem dX0_walkStep_73 : decode cX0_walkStep 73 = .ok (.lload 10, 2) := by decide +kernel
theorem dX0_walkStep_75 : decode cX0_walkStep 75 = .ok (.lconst 0, 1) := by decide +kernel
theorem dX0_walkStep_76 : decode cX0_walkStep 76 = .ok (.lcmp, 1) := by decide +kernel
theorem dX0_walkStep_77 : decode cX0_walkStep 77 = .ok (.ifCond .ne 6, 3) := by decide +kernel
theorem dX0_walkStep_80 : decode cX0_walkStep 80 = .ok (.goto 101, 3) := by decide +kernel
theorem dX0_walkStep_83 : decode cX0_walkStep 83 = .ok (.aload_n 0, 1) := by decide +kernel
theorem dX0_walkStep_84 : decode cX0_walkStep 84 = .ok (.getfield 11, 3) := by decide +kernel
theorem dX0_walkStep_87 : decode cX0_walkStep 87 = .ok (.iload 9, 2) := by decide +kernel
theorem dX0_walkStep_89 : decode cX0_walkStep 89 = .ok (.lconst 0, 1) := by decide +kernel
theorem dX0_walkStep_90 : decode cX0_walkStep 90 = .ok (.lastore, 1) := by decide +kernel
theorem dX0_walkStep_91 : decode cX0_walkStep 91 = .ok (.aload_n 0, 1) := by decide +kernel
theorem dX0_walkStep_92 : decode cX0_walkStep 92 = .ok (.getfield 22, 3) := by decide +kernel
theorem dX0_walkStep_95 : decode cX0_walkStep 95 = .ok (.iconst 0, 1) := by decide +kernel
theorem dX0_walkStep_96 : decode cX0_walkStep 96 = .ok (.iload 6, 2) := by decide +kernel
theorem dX0_walkStep_98 : decode cX0_walkStep 98 = .ok (.iastore, 1) := by decide +kernel
theorem dX0_walkStep_99 : decode cX0_walkStep 99 = .ok (.aload_n 0, 1) := by decide +kernel
theorem dX0_walkStep_100 : decode cX0_walkStep 100 = .ok (.getfield 22, 3) := by decide +kernel
theorem dX0_walkStep_103 : decode cX0_walkStep 103 = .ok (.iconst 1, 1) := by decide +kernel
theorem dX0_walkStep_104 : decode cX0_walkStep 104 = .ok (.iload 7, 2) := by decide +kernel
theorem dX0_walkStep_106 : decode cX0_walkStep 106 = .ok (.iastore, 1) := by decide +kernel
theorem dX0_walkStep_107 : decode cX0_walkStep 107 = .ok (.aload_n 0, 1) := by decide +kernel
theorem dX0_walkStep_108 : decode cX0_walkStep 108 = .ok (.getfield 22, 3) := by decide +kernel
theorem dX0_walkStep_111 : decode cX0_walkStep 111 = .ok (.iconst 2, 1) := by decide +kernel
theorem dX0_walkStep_112 : decode cX0_walkStep 112 = .ok (.iload 8, 2) := by decide +kernel
theorem dX0_walkStep_114 : decode cX0_walkStep 114 = .ok (.iastore, 1) := by decide +kernel
theorem dX0_walkStep_115 : decode cX0_walkStep 115 = .ok (.aload_n 0, 1) := by decide +kernel
theorem dX0_walkStep_116 : decode cX0_walkStep 116 = .ok (.getfield 22, 3) := by decide +kernel
theorem dX0_walkStep_119 : decode cX0_walkStep 119 = .ok (.iconst 3, 1) := by decide +kernel
theorem dX0_walkStep_120 : decode cX0_walkStep 120 = .ok (.iload_n 2, 1) := by decide +kernel
theorem dX0_walkStep_121 : decode cX0_walkStep 121 = .ok (.iload 6, 2) := by decide +kernel
theorem dX0_walkStep_123 : decode cX0_walkStep 123 = .ok (.isub, 1) := by decide +kernel
theorem dX0_walkStep_124 : decode cX0_walkStep 124 = .ok (.iload 7, 2) := by decide +kernel
theorem dX0_walkStep_126 : decode cX0_walkStep 126 = .ok (.isub, 1) := by decide +kernel
theorem dX0_walkStep_127 : decode cX0_walkStep 127 = .ok (.iload 8, 2) := by decide +kernel
theorem dX0_walkStep_129 : decode cX0_walkStep 129 = .ok (.isub, 1) := by decide +kernel
theorem dX0_walkStep_130 : decode cX0_walkStep 130 = .ok (.iastore, 1) := by decide +kernel
theorem dX0_walkStep_131 : decode cX0_walkStep 131 = .ok (.aload_n 0, 1) := by decide +kernel
theorem dX0_walkStep_132 : decode cX0_walkStep 132 = .ok (.aload_n 1, 1) := by decide +kernel
theorem dX0_walkStep_133 : decode cX0_walkStep 133 = .ok (.invokevirtual 87, 3) := by decide +kernel
theorem dX0_walkStep_136 : decode cX0_walkStep 136 = .ok (.iload_n 2, 1) := by decide +kernel
theorem dX0_walkStep_137 : decode cX0_walkStep 137 = .ok (.iload_n 3, 1) := by decide +kernel
theorem dX0_walkStep_138 : decode cX0_walkStep 138 = .ok (.if_icmp .ne 26, 3) := by decide +kernel
theorem dX0_walkStep_141 : decode cX0_walkStep 141 = .ok (.aload_n 0, 1) := by decide +kernel
theorem dX0_walkStep_142 : decode cX0_walkStep 142 = .ok (.lload 10, 2) := by decide +kernel
theorem dX0_walkStep_144 : decode cX0_walkStep 144 = .ok (.aload_n 0, 1) := by decide +kernel
theorem dX0_walkStep_145 : decode cX0_walkStep 145 = .ok (.getfield 22, 3) := by decide +kernel
theorem dX0_walkStep_148 : decode cX0_walkStep 148 = .ok (.iload 4, 2) := by decide +kernel
theorem dX0_walkStep_150 : decode cX0_walkStep 150 = .ok (.iaload, 1) := by decide +kernel
theorem dX0_walkStep_151 : decode cX0_walkStep 151 = .ok (.aload_n 0, 1) := by decide +kernel
theorem dX0_walkStep_152 : decode cX0_walkStep 152 = .ok (.getfield 25, 3) := by decide +kernel
theorem dX0_walkStep_155 : decode cX0_walkStep 155 = .ok (.iload 4, 2) := by decide +kernel
theorem dX0_walkStep_157 : decode cX0_walkStep 157 = .ok (.iaload, 1) := by decide +kernel
theorem dX0_walkStep_158 : decode cX0_walkStep 158 = .ok (.invokevirtual 91, 3) := by decide +kernel
theorem dX0_walkStep_161 : decode cX0_walkStep 161 = .ok (.goto 20, 3) := by decide +kernel
theorem dX0_walkStep_164 : decode cX0_walkStep 164 = .ok (.aload_n 0, 1) := by decide +kernel
theorem dX0_walkStep_165 : decode cX0_walkStep 165 = .ok (.aload_n 1, 1) := by decide +kernel
theorem dX0_walkStep_166 : decode cX0_walkStep 166 = .ok (.iload 9, 2) := by decide +kernel
theorem dX0_walkStep_168 : decode cX0_walkStep 168 = .ok (.lload 10, 2) := by decide +kernel
theorem dX0_walkStep_170 : decode cX0_walkStep 170 = .ok (.aload_n 0, 1) := by decide +kernel
theorem dX0_walkStep_171 : decode cX0_walkStep 171 = .ok (.getfield 18, 3) := by decide +kernel
theorem dX0_walkStep_174 : decode cX0_walkStep 174 = .ok (.iload_n 2, 1) := by decide +kernel
theorem dX0_walkStep_175 : decode cX0_walkStep 175 = .ok (.iaload, 1) := by decide +kernel
theorem dX0_walkStep_176 : decode cX0_walkStep 176 = .ok (.iload 5, 2) := by decide +kernel
theorem dX0_walkStep_178 : decode cX0_walkStep 178 = .ok (.invokevirtual 95, 3) := by decide +kernel
theorem dX0_walkStep_181 : decode cX0_walkStep 181 = .ok (.iinc 8 1, 3) := by decide +kernel
theorem dX0_walkStep_184 : decode cX0_walkStep 184 = .ok (.goto (-160), 3) := by decide +kernel
theorem dX0_walkStep_187 : decode cX0_walkStep 187 = .ok (.iinc 7 1, 3) := by decide +kernel
theorem dX0_walkStep_190 : decode cX0_walkStep 190 = .ok (.goto (-178), 3) := by decide +kernel
theorem dX0_walkStep_193 : decode cX0_walkStep 193 = .ok (.iinc 6 1, 3) := by decide +kernel
theorem dX0_walkStep_196 : decode cX0_walkStep 196 = .ok (.goto (-193), 3) := by decide +kernel
theorem dX0_walkStep_199 : decode cX0_walkStep 199 = .ok (.return_, 1) := by decide +kernel
theorem dX0_settle_0 : decode cX0_settle 0 = .ok (.aload_n 0, 1) := by decide +kernel
theorem dX0_settle_1 : decode cX0_settle 1 = .ok (.getfield 28, 3) := by decide +kernel
theorem dX0_settle_4 : decode cX0_settle 4 = .ok (.iload_n 3, 1) := by decide +kernel
theorem dX0_settle_5 : decode cX0_settle 5 = .ok (.dup2, 1) := by decide +kernel
theorem dX0_settle_6 : decode cX0_settle 6 = .ok (.laload, 1) := by decide +kernel
theorem dX0_settle_7 : decode cX0_settle 7 = .ok (.lload_n 1, 1) := by decide +kernel
theorem dX0_settle_8 : decode cX0_settle 8 = .ok (.ladd, 1) := by decide +kernel
theorem dX0_settle_9 : decode cX0_settle 9 = .ok (.lastore, 1) := by decide +kernel
theorem dX0_settle_10 : decode cX0_settle 10 = .ok (.iload 4, 2) := by decide +kernel
theorem dX0_settle_12 : decode cX0_settle 12 = .ok (.ifCond .lt 22, 3) := by decide +kernel
theorem dX0_settle_15 : decode cX0_settle 15 = .ok (.iload 4, 2) := by decide +kernel
theorem dX0_settle_17 : decode cX0_settle 17 = .ok (.sipush 200, 3) := by decide +kernel
theorem dX0_settle_20 : decode cX0_settle 20 = .ok (.if_icmp .gt 14, 3) := by decide +kernel
theorem dX0_settle_23 : decode cX0_settle 23 = .ok (.aload_n 0, 1) := by decide +kernel
theorem dX0_settle_24 : decode cX0_settle 24 = .ok (.getfield 31, 3) := by decide +kernel
theorem dX0_settle_27 : decode cX0_settle 27 = .ok (.iload 4, 2) := by decide +kernel
theorem dX0_settle_29 : decode cX0_settle 29 = .ok (.dup2, 1) := by decide +kernel
theorem dX0_settle_30 : decode cX0_settle 30 = .ok (.laload, 1) := by decide +kernel
theorem dX0_settle_31 : decode cX0_settle 31 = .ok (.lload_n 1, 1) := by decide +kernel
theorem dX0_settle_32 : decode cX0_settle 32 = .ok (.ladd, 1) := by decide +kernel
theorem dX0_settle_33 : decode cX0_settle 33 = .ok (.lastore, 1) := by decide +kernel
theorem dX0_settle_34 : decode cX0_settle 34 = .ok (.return_, 1) := by decide +kernel
theorem dX0_findBalls_0 : decode cX0_findBalls 0 = .ok (.iconst 0, 1) := by decide +kernel
theorem dX0_findBalls_1 : decode cX0_findBalls 1 = .ok (.istore_n 2, 1) := by decide +kernel
theorem dX0_findBalls_2 : decode cX0_findBalls 2 = .ok (.iload_n 2, 1) := by decide +kernel
theorem dX0_findBalls_3 : decode cX0_findBalls 3 = .ok (.iconst 4, 1) := by decide +kernel
theorem dX0_findBalls_4 : decode cX0_findBalls 4 = .ok (.if_icmp .ge 60, 3) := by decide +kernel
theorem dX0_findBalls_7 : decode cX0_findBalls 7 = .ok (.aload_n 0, 1) := by decide +kernel
theorem dX0_findBalls_8 : decode cX0_findBalls 8 = .ok (.getfield 25, 3) := by decide +kernel
theorem dX0_findBalls_11 : decode cX0_findBalls 11 = .ok (.iload_n 2, 1) := by decide +kernel
theorem dX0_findBalls_12 : decode cX0_findBalls 12 = .ok (.aload_n 1, 1) := by decide +kernel
theorem dX0_findBalls_13 : decode cX0_findBalls 13 = .ok (.getfield 99, 3) := by decide +kernel
theorem dX0_findBalls_16 : decode cX0_findBalls 16 = .ok (.iload_n 2, 1) := by decide +kernel
theorem dX0_findBalls_17 : decode cX0_findBalls 17 = .ok (.iaload, 1) := by decide +kernel
theorem dX0_findBalls_18 : decode cX0_findBalls 18 = .ok (.iastore, 1) := by decide +kernel
theorem dX0_findBalls_19 : decode cX0_findBalls 19 = .ok (.iconst 0, 1) := by decide +kernel
theorem dX0_findBalls_20 : decode cX0_findBalls 20 = .ok (.istore_n 3, 1) := by decide +kernel
theorem dX0_findBalls_21 : decode cX0_findBalls 21 = .ok (.iload_n 3, 1) := by decide +kernel
theorem dX0_findBalls_22 : decode cX0_findBalls 22 = .ok (.iconst 4, 1) := by decide +kernel
theorem dX0_findBalls_23 : decode cX0_findBalls 23 = .ok (.if_icmp .ge 35, 3) := by decide +kernel
theorem dX0_findBalls_26 : decode cX0_findBalls 26 = .ok (.aload_n 0, 1) := by decide +kernel
theorem dX0_findBalls_27 : decode cX0_findBalls 27 = .ok (.getfield 25, 3) := by decide +kernel
theorem dX0_findBalls_30 : decode cX0_findBalls 30 = .ok (.iload_n 2, 1) := by decide +kernel
theorem dX0_findBalls_31 : decode cX0_findBalls 31 = .ok (.dup2, 1) := by decide +kernel
theorem dX0_findBalls_32 : decode cX0_findBalls 32 = .ok (.iaload, 1) := by decide +kernel
theorem dX0_findBalls_33 : decode cX0_findBalls 33 = .ok (.aload_n 0, 1) := by decide +kernel
theorem dX0_findBalls_34 : decode cX0_findBalls 34 = .ok (.getfield 22, 3) := by decide +kernel
theorem dX0_findBalls_37 : decode cX0_findBalls 37 = .ok (.iload_n 3, 1) := by decide +kernel
theorem dX0_findBalls_38 : decode cX0_findBalls 38 = .ok (.iaload, 1) := by decide +kernel
theorem dX0_findBalls_39 : decode cX0_findBalls 39 = .ok (.aload_n 1, 1) := by decide +kernel
theorem dX0_findBalls_40 : decode cX0_findBalls 40 = .ok (.getfield 100, 3) := by decide +kernel
theorem dX0_findBalls_43 : decode cX0_findBalls 43 = .ok (.iload_n 3, 1) := by decide +kernel
theorem dX0_findBalls_44 : decode cX0_findBalls 44 = .ok (.iconst 4, 1) := by decide +kernel
theorem dX0_findBalls_45 : decode cX0_findBalls 45 = .ok (.imul, 1) := by decide +kernel
theorem dX0_findBalls_46 : decode cX0_findBalls 46 = .ok (.iload_n 2, 1) := by decide +kernel
theorem dX0_findBalls_47 : decode cX0_findBalls 47 = .ok (.iadd, 1) := by decide +kernel
theorem dX0_findBalls_48 : decode cX0_findBalls 48 = .ok (.iaload, 1) := by decide +kernel
theorem dX0_findBalls_49 : decode cX0_findBalls 49 = .ok (.imul, 1) := by decide +kernel
theorem dX0_findBalls_50 : decode cX0_findBalls 50 = .ok (.iadd, 1) := by decide +kernel
theorem dX0_findBalls_51 : decode cX0_findBalls 51 = .ok (.iastore, 1) := by decide +kernel
theorem dX0_findBalls_52 : decode cX0_findBalls 52 = .ok (.iinc 3 1, 3) := by decide +kernel
theorem dX0_findBalls_55 : decode cX0_findBalls 55 = .ok (.goto (-34), 3) := by decide +kernel
theorem dX0_findBalls_58 : decode cX0_findBalls 58 = .ok (.iinc 2 1, 3) := by decide +kernel
theorem dX0_findBalls_61 : decode cX0_findBalls 61 = .ok (.goto (-59), 3) := by decide +kernel
theorem dX0_findBalls_64 : decode cX0_findBalls 64 = .ok (.return_, 1) := by decide +kernel
theorem dX0_spread_0 : decode cX0_spread 0 = .ok (.aload_n 0, 1) := by decide +kernel
theorem dX0_spread_1 : decode cX0_spread 1 = .ok (.getfield 25, 3) := by decide +kernel
theorem dX0_spread_4 : decode cX0_spread 4 = .ok (.iconst 0, 1) := by decide +kernel
theorem dX0_spread_5 : decode cX0_spread 5 = .ok (.iaload, 1) := by decide +kernel
theorem dX0_spread_6 : decode cX0_spread 6 = .ok (.aload_n 0, 1) := by decide +kernel
theorem dX0_spread_7 : decode cX0_spread 7 = .ok (.getfield 25, 3) := by decide +kernel
theorem dX0_spread_10 : decode cX0_spread 10 = .ok (.iconst 1, 1) := by decide +kernel
theorem dX0_spread_11 : decode cX0_spread 11 = .ok (.iaload, 1) := by decide +kernel
theorem dX0_spread_12 : decode cX0_spread 12 = .ok (.iadd, 1) := by decide +kernel
theorem dX0_spread_13 : decode cX0_spread 13 = .ok (.aload_n 0, 1) := by decide +kernel
theorem dX0_spread_14 : decode cX0_spread 14 = .ok (.getfield 25, 3) := by decide +kernel
theorem dX0_spread_17 : decode cX0_spread 17 = .ok (.iconst 2, 1) := by decide +kernel
theorem dX0_spread_18 : decode cX0_spread 18 = .ok (.iaload, 1) := by decide +kernel
theorem dX0_spread_19 : decode cX0_spread 19 = .ok (.iadd, 1) := by decide +kernel
theorem dX0_spread_20 : decode cX0_spread 20 = .ok (.aload_n 0, 1) := by decide +kernel
theorem dX0_spread_21 : decode cX0_spread 21 = .ok (.getfield 25, 3) := by decide +kernel
theorem dX0_spread_24 : decode cX0_spread 24 = .ok (.iconst 3, 1) := by decide +kernel
theorem dX0_spread_25 : decode cX0_spread 25 = .ok (.iaload, 1) := by decide +kernel
theorem dX0_spread_26 : decode cX0_spread 26 = .ok (.iadd, 1) := by decide +kernel
theorem dX0_spread_27 : decode cX0_spread 27 = .ok (.ifCond .ne 14, 3) := by decide +kernel
theorem dX0_spread_30 : decode cX0_spread 30 = .ok (.aload_n 0, 1) := by decide +kernel
theorem dX0_spread_31 : decode cX0_spread 31 = .ok (.dup, 1) := by decide +kernel
theorem dX0_spread_32 : decode cX0_spread 32 = .ok (.getfield 34, 3) := by decide +kernel
theorem dX0_spread_35 : decode cX0_spread 35 = .ok (.lload_n 3, 1) := by decide +kernel
theorem dX0_spread_36 : decode cX0_spread 36 = .ok (.ladd, 1) := by decide +kernel
theorem dX0_spread_37 : decode cX0_spread 37 = .ok (.putfield 34, 3) := by decide +kernel
theorem dX0_spread_40 : decode cX0_spread 40 = .ok (.return_, 1) := by decide +kernel
theorem dX0_spread_41 : decode cX0_spread 41 = .ok (.iconst 0, 1) := by decide +kernel
theorem dX0_spread_42 : decode cX0_spread 42 = .ok (.istore 7, 2) := by decide +kernel
theorem dX0_spread_44 : decode cX0_spread 44 = .ok (.iload 7, 2) := by decide +kernel
theorem dX0_spread_46 : decode cX0_spread 46 = .ok (.aload_n 1, 1) := by decide +kernel
theorem dX0_spread_47 : decode cX0_spread 47 = .ok (.getfield 103, 3) := by decide +kernel
theorem dX0_spread_50 : decode cX0_spread 50 = .ok (.if_icmp .ge 100, 3) := by decide +kernel
theorem dX0_spread_53 : decode cX0_spread 53 = .ok (.aload_n 0, 1) := by decide +kernel
theorem dX0_spread_54 : decode cX0_spread 54 = .ok (.getfield 25, 3) := by decide +kernel
theorem dX0_spread_57 : decode cX0_spread 57 = .ok (.iload 7, 2) := by decide +kernel
theorem dX0_spread_59 : decode cX0_spread 59 = .ok (.iaload, 1) := by decide +kernel
theorem dX0_spread_60 : decode cX0_spread 60 = .ok (.ifCond .eq 84, 3) := by decide +kernel
theorem dX0_spread_63 : decode cX0_spread 63 = .ok (.iload 5, 2) := by decide +kernel
theorem dX0_spread_65 : decode cX0_spread 65 = .ok (.ifCond .lt 13, 3) := by decide +kernel
theorem dX0_spread_68 : decode cX0_spread 68 = .ok (.iload 7, 2) := by decide +kernel
theorem dX0_spread_70 : decode cX0_spread 70 = .ok (.iload 5, 2) := by decide +kernel
theorem dX0_spread_72 : decode cX0_spread 72 = .ok (.if_icmp .eq 6, 3) := by decide +kernel
theorem dX0_spread_75 : decode cX0_spread 75 = .ok (.goto 69, 3) := by decide +kernel
theorem dX0_spread_78 : decode cX0_spread 78 = .ok (.iload 6, 2) := by decide +kernel
theorem dX0_spread_80 : decode cX0_spread 80 = .ok (.ifCond .eq 16, 3) := by decide +kernel
theorem dX0_spread_83 : decode cX0_spread 83 = .ok (.lload_n 3, 1) := by decide +kernel
theorem dX0_spread_84 : decode cX0_spread 84 = .ok (.aload_n 0, 1) := by decide +kernel
theorem dX0_spread_85 : decode cX0_spread 85 = .ok (.getfield 25, 3) := by decide +kernel
theorem dX0_spread_88 : decode cX0_spread 88 = .ok (.iload 7, 2) := by decide +kernel
theorem dX0_spread_90 : decode cX0_spread 90 = .ok (.iaload, 1) := by decide +kernel
theorem dX0_spread_91 : decode cX0_spread 91 = .ok (.i2l, 1) := by decide +kernel
theorem dX0_spread_92 : decode cX0_spread 92 = .ok (.lmul, 1) := by decide +kernel
theorem dX0_spread_93 : decode cX0_spread 93 = .ok (.goto 4, 3) := by decide +kernel
theorem dX0_spread_96 : decode cX0_spread 96 = .ok (.lload_n 3, 1) := by decide +kernel
theorem dX0_spread_97 : decode cX0_spread 97 = .ok (.lstore 8, 2) := by decide +kernel
theorem dX0_spread_99 : decode cX0_spread 99 = .ok (.aload_n 1, 1) := by decide +kernel
theorem dX0_spread_100 : decode cX0_spread 100 = .ok (.aload_n 0, 1) := by decide +kernel
theorem dX0_spread_101 : decode cX0_spread 101 = .ok (.getfield 25, 3) := by decide +kernel
theorem dX0_spread_104 : decode cX0_spread 104 = .ok (.iload 7, 2) := by decide +kernel
theorem dX0_spread_106 : decode cX0_spread 106 = .ok (.invokevirtual 107, 3) := by decide +kernel
theorem dX0_spread_109 : decode cX0_spread 109 = .ok (.ifCond .eq 24, 3) := by decide +kernel
theorem dX0_spread_112 : decode cX0_spread 112 = .ok (.aload_n 0, 1) := by decide +kernel
theorem dX0_spread_113 : decode cX0_spread 113 = .ok (.getfield 15, 3) := by decide +kernel
theorem dX0_spread_116 : decode cX0_spread 116 = .ok (.iload_n 2, 1) := by decide +kernel
theorem dX0_spread_117 : decode cX0_spread 117 = .ok (.getstatic 84, 3) := by decide +kernel
theorem dX0_spread_120 : decode cX0_spread 120 = .ok (.iload 7, 2) := by decide +kernel
theorem dX0_spread_122 : decode cX0_spread 122 = .ok (.iaload, 1) := by decide +kernel
theorem dX0_spread_123 : decode cX0_spread 123 = .ok (.iadd, 1) := by decide +kernel
theorem dX0_spread_124 : decode cX0_spread 124 = .ok (.dup2, 1) := by decide +kernel
theorem dX0_spread_125 : decode cX0_spread 125 = .ok (.laload, 1) := by decide +kernel
theorem dX0_spread_126 : decode cX0_spread 126 = .ok (.lload 8, 2) := by decide +kernel
theorem dX0_spread_128 : decode cX0_spread 128 = .ok (.ladd, 1) := by decide +kernel
theorem dX0_spread_129 : decode cX0_spread 129 = .ok (.lastore, 1) := by decide +kernel
theorem dX0_spread_130 : decode cX0_spread 130 = .ok (.goto 14, 3) := by decide +kernel
theorem dX0_spread_133 : decode cX0_spread 133 = .ok (.aload_n 0, 1) := by decide +kernel
theorem dX0_spread_134 : decode cX0_spread 134 = .ok (.dup, 1) := by decide +kernel
theorem dX0_spread_135 : decode cX0_spread 135 = .ok (.getfield 34, 3) := by decide +kernel
theorem dX0_spread_138 : decode cX0_spread 138 = .ok (.lload 8, 2) := by decide +kernel
theorem dX0_spread_140 : decode cX0_spread 140 = .ok (.ladd, 1) := by decide +kernel
theorem dX0_spread_141 : decode cX0_spread 141 = .ok (.putfield 34, 3) := by decide +kernel
theorem dX0_spread_144 : decode cX0_spread 144 = .ok (.iinc 7 1, 3) := by decide +kernel
theorem dX0_spread_147 : decode cX0_spread 147 = .ok (.goto (-103), 3) := by decide +kernel
theorem dX0_spread_150 : decode cX0_spread 150 = .ok (.return_, 1) := by decide +kernel
theorem dX1_init_0 : decode cX1_init 0 = .ok (.aload_n 0, 1) := by decide +kernel
theorem dX1_init_1 : decode cX1_init 1 = .ok (.invokespecial 1, 3) := by decide +kernel
theorem dX1_init_4 : decode cX1_init 4 = .ok (.aload_n 0, 1) := by decide +kernel
theorem dX1_init_5 : decode cX1_init 5 = .ok (.lconst 0, 1) := by decide +kernel
theorem dX1_init_6 : decode cX1_init 6 = .ok (.putfield 7, 3) := by decide +kernel
theorem dX1_init_9 : decode cX1_init 9 = .ok (.aload_n 0, 1) := by decide +kernel
theorem dX1_init_10 : decode cX1_init 10 = .ok (.lconst 0, 1) := by decide +kernel
theorem dX1_init_11 : decode cX1_init 11 = .ok (.putfield 13, 3) := by decide +kernel
theorem dX1_init_14 : decode cX1_init 14 = .ok (.aload_n 0, 1) := by decide +kernel
theorem dX1_init_15 : decode cX1_init 15 = .ok (.lconst 1, 1) := by decide +kernel
theorem dX1_init_16 : decode cX1_init 16 = .ok (.putfield 16, 3) := by decide +kernel
theorem dX1_init_19 : decode cX1_init 19 = .ok (.return_, 1) := by decide +kernel
theorem dX1_become_0 : decode cX1_become 0 = .ok (.lload 5, 2) := by decide +kernel
theorem dX1_become_2 : decode cX1_become 2 = .ok (.lconst 1, 1) := by decide +kernel
theorem dX1_become_3 : decode cX1_become 3 = .ok (.lcmp, 1) := by decide +kernel
theorem dX1_become_4 : decode cX1_become 4 = .ok (.ifCond .ge 4, 3) := by decide +kernel
theorem dX1_become_7 : decode cX1_become 7 = .ok (.return_, 1) := by decide +kernel
theorem dX1_become_8 : decode cX1_become 8 = .ok (.lload_n 3, 1) := by decide +kernel
theorem dX1_become_9 : decode cX1_become 9 = .ok (.lload 5, 2) := by decide +kernel
theorem dX1_become_11 : decode cX1_become 11 = .ok (.lrem, 1) := by decide +kernel
theorem dX1_become_12 : decode cX1_become 12 = .ok (.lstore 7, 2) := by decide +kernel
theorem dX1_become_14 : decode cX1_become 14 = .ok (.lload 7, 2) := by decide +kernel
theorem dX1_become_16 : decode cX1_become 16 = .ok (.lload 5, 2) := by decide +kernel
theorem dX1_become_18 : decode cX1_become 18 = .ok (.invokestatic 19, 3) := by decide +kernel
theorem dX1_become_21 : decode cX1_become 21 = .ok (.lstore 9, 2) := by decide +kernel
theorem dX1_become_23 : decode cX1_become 23 = .ok (.aload_n 0, 1) := by decide +kernel
theorem dX1_become_24 : decode cX1_become 24 = .ok (.lload_n 1, 1) := by decide +kernel
theorem dX1_become_25 : decode cX1_become 25 = .ok (.lload_n 3, 1) := by decide +kernel
theorem dX1_become_26 : decode cX1_become 26 = .ok (.lload 5, 2) := by decide +kernel
theorem dX1_become_28 : decode cX1_become 28 = .ok (.ldiv, 1) := by decide +kernel
theorem dX1_become_29 : decode cX1_become 29 = .ok (.ladd, 1) := by decide +kernel
theorem dX1_become_30 : decode cX1_become 30 = .ok (.putfield 7, 3) := by decide +kernel
theorem dX1_become_33 : decode cX1_become 33 = .ok (.aload_n 0, 1) := by decide +kernel
theorem dX1_become_34 : decode cX1_become 34 = .ok (.lload 7, 2) := by decide +kernel
theorem dX1_become_36 : decode cX1_become 36 = .ok (.lload 9, 2) := by decide +kernel
theorem dX1_become_38 : decode cX1_become 38 = .ok (.ldiv, 1) := by decide +kernel
theorem dX1_become_39 : decode cX1_become 39 = .ok (.putfield 13, 3) := by decide +kernel
theorem dX1_become_42 : decode cX1_become 42 = .ok (.aload_n 0, 1) := by decide +kernel
theorem dX1_become_43 : decode cX1_become 43 = .ok (.lload 5, 2) := by decide +kernel
theorem dX1_become_45 : decode cX1_become 45 = .ok (.lload 9, 2) := by decide +kernel
theorem dX1_become_47 : decode cX1_become 47 = .ok (.ldiv, 1) := by decide +kernel
theorem dX1_become_48 : decode cX1_become 48 = .ok (.putfield 16, 3) := by decide +kernel
theorem dX1_become_51 : decode cX1_become 51 = .ok (.return_, 1) := by decide +kernel
theorem dX2_init_0 : decode cX2_init 0 = .ok (.aload_n 0, 1) := by decide +kernel
theorem dX2_init_1 : decode cX2_init 1 = .ok (.invokespecial 3, 3) := by decide +kernel
theorem dX2_init_4 : decode cX2_init 4 = .ok (.aload_n 0, 1) := by decide +kernel
theorem dX2_init_5 : decode cX2_init 5 = .ok (.bipush 20, 2) := by decide +kernel
theorem dX2_init_7 : decode cX2_init 7 = .ok (.sipush 201, 3) := by decide +kernel
theorem dX2_init_10 : decode cX2_init 10 = .ok (.multianewarray 9 2, 4) := by decide +kernel
theorem dX2_init_14 : decode cX2_init 14 = .ok (.putfield 11, 3) := by decide +kernel
theorem dX2_init_17 : decode cX2_init 17 = .ok (.aload_n 0, 1) := by decide +kernel
theorem dX2_init_18 : decode cX2_init 18 = .ok (.iconst 0, 1) := by decide +kernel
theorem dX2_init_19 : decode cX2_init 19 = .ok (.putfield 16, 3) := by decide +kernel
theorem dX2_init_22 : decode cX2_init 22 = .ok (.aload_n 0, 1) := by decide +kernel
theorem dX2_init_23 : decode cX2_init 23 = .ok (.iconst 0, 1) := by decide +kernel
theorem dX2_init_24 : decode cX2_init 24 = .ok (.putfield 20, 3) := by decide +kernel
theorem dX2_init_27 : decode cX2_init 27 = .ok (.return_, 1) := by decide +kernel
theorem dX2_nextRow_0 : decode cX2_nextRow 0 = .ok (.aload_n 0, 1) := by decide +kernel
theorem dX2_nextRow_1 : decode cX2_nextRow 1 = .ok (.getfield 11, 3) := by decide +kernel
theorem dX2_nextRow_4 : decode cX2_nextRow 4 = .ok (.aload_n 0, 1) := by decide +kernel
theorem dX2_nextRow_5 : decode cX2_nextRow 5 = .ok (.getfield 20, 3) := by decide +kernel
theorem dX2_nextRow_8 : decode cX2_nextRow 8 = .ok (.aaload, 1) := by decide +kernel
theorem dX2_nextRow_9 : decode cX2_nextRow 9 = .ok (.astore_n 1, 1) := by decide +kernel
theorem dX2_nextRow_10 : decode cX2_nextRow 10 = .ok (.aload_n 0, 1) := by decide +kernel
theorem dX2_nextRow_11 : decode cX2_nextRow 11 = .ok (.aload_n 0, 1) := by decide +kernel
theorem dX2_nextRow_12 : decode cX2_nextRow 12 = .ok (.getfield 20, 3) := by decide +kernel
theorem dX2_nextRow_15 : decode cX2_nextRow 15 = .ok (.iconst 1, 1) := by decide +kernel
theorem dX2_nextRow_16 : decode cX2_nextRow 16 = .ok (.iadd, 1) := by decide +kernel
theorem dX2_nextRow_17 : decode cX2_nextRow 17 = .ok (.bipush 20, 2) := by decide +kernel
theorem dX2_nextRow_19 : decode cX2_nextRow 19 = .ok (.irem, 1) := by decide +kernel
theorem dX2_nextRow_20 : decode cX2_nextRow 20 = .ok (.putfield 20, 3) := by decide +kernel
theorem dX2_nextRow_23 : decode cX2_nextRow 23 = .ok (.aload_n 0, 1) := by decide +kernel
theorem dX2_nextRow_24 : decode cX2_nextRow 24 = .ok (.aload_n 0, 1) := by decide +kernel
theorem dX2_nextRow_25 : decode cX2_nextRow 25 = .ok (.getfield 16, 3) := by decide +kernel
theorem dX2_nextRow_28 : decode cX2_nextRow 28 = .ok (.bipush 20, 2) := by decide +kernel
theorem dX2_nextRow_30 : decode cX2_nextRow 30 = .ok (.if_icmp .ge 12, 3) := by decide +kernel
theorem dX2_nextRow_33 : decode cX2_nextRow 33 = .ok (.aload_n 0, 1) := by decide +kernel
theorem dX2_nextRow_34 : decode cX2_nextRow 34 = .ok (.getfield 16, 3) := by decide +kernel
theorem dX2_nextRow_37 : decode cX2_nextRow 37 = .ok (.iconst 1, 1) := by decide +kernel
theorem dX2_nextRow_38 : decode cX2_nextRow 38 = .ok (.iadd, 1) := by decide +kernel
theorem dX2_nextRow_39 : decode cX2_nextRow 39 = .ok (.goto 5, 3) := by decide +kernel
theorem dX2_nextRow_42 : decode cX2_nextRow 42 = .ok (.bipush 20, 2) := by decide +kernel
theorem dX2_nextRow_44 : decode cX2_nextRow 44 = .ok (.putfield 16, 3) := by decide +kernel
theorem dX2_nextRow_47 : decode cX2_nextRow 47 = .ok (.aload_n 1, 1) := by decide +kernel
theorem dX2_nextRow_48 : decode cX2_nextRow 48 = .ok (.areturn, 1) := by decide +kernel
theorem dX2_takeLatest_0 : decode cX2_takeLatest 0 = .ok (.aload_n 0, 1) := by decide +kernel
theorem dX2_takeLatest_1 : decode cX2_takeLatest 1 = .ok (.getfield 16, 3) := by decide +kernel
theorem dX2_takeLatest_4 : decode cX2_takeLatest 4 = .ok (.ifCond .ne 5, 3) := by decide +kernel
theorem dX2_takeLatest_7 : decode cX2_takeLatest 7 = .ok (.aconst_null, 1) := by decide +kernel
theorem dX2_takeLatest_8 : decode cX2_takeLatest 8 = .ok (.areturn, 1) := by decide +kernel
theorem dX2_takeLatest_9 : decode cX2_takeLatest 9 = .ok (.aload_n 0, 1) := by decide +kernel
theorem dX2_takeLatest_10 : decode cX2_takeLatest 10 = .ok (.dup, 1) := by decide +kernel
theorem dX2_takeLatest_11 : decode cX2_takeLatest 11 = .ok (.getfield 16, 3) := by decide +kernel
theorem dX2_takeLatest_14 : decode cX2_takeLatest 14 = .ok (.iconst 1, 1) := by decide +kernel
theorem dX2_takeLatest_15 : decode cX2_takeLatest 15 = .ok (.isub, 1) := by decide +kernel
theorem dX2_takeLatest_16 : decode cX2_takeLatest 16 = .ok (.putfield 16, 3) := by decide +kernel
theorem dX2_takeLatest_19 : decode cX2_takeLatest 19 = .ok (.aload_n 0, 1) := by decide +kernel
theorem dX2_takeLatest_20 : decode cX2_takeLatest 20 = .ok (.aload_n 0, 1) := by decide +kernel
theorem dX2_takeLatest_21 : decode cX2_takeLatest 21 = .ok (.getfield 20, 3) := by decide +kernel
theorem dX2_takeLatest_24 : decode cX2_takeLatest 24 = .ok (.bipush 20, 2) := by decide +kernel
theorem dX2_takeLatest_26 : decode cX2_takeLatest 26 = .ok (.iadd, 1) := by decide +kernel
theorem dX2_takeLatest_27 : decode cX2_takeLatest 27 = .ok (.iconst 1, 1) := by decide +kernel
theorem dX2_takeLatest_28 : decode cX2_takeLatest 28 = .ok (.isub, 1) := by decide +kernel
theorem dX2_takeLatest_29 : decode cX2_takeLatest 29 = .ok (.bipush 20, 2) := by decide +kernel
theorem dX2_takeLatest_31 : decode cX2_takeLatest 31 = .ok (.irem, 1) := by decide +kernel
theorem dX2_takeLatest_32 : decode cX2_takeLatest 32 = .ok (.putfield 20, 3) := by decide +kernel
theorem dX2_takeLatest_35 : decode cX2_takeLatest 35 = .ok (.aload_n 0, 1) := by decide +kernel
theorem dX2_takeLatest_36 : decode cX2_takeLatest 36 = .ok (.getfield 11, 3) := by decide +kernel
theorem dX2_takeLatest_39 : decode cX2_takeLatest 39 = .ok (.aload_n 0, 1) := by decide +kernel
theorem dX2_takeLatest_40 : decode cX2_takeLatest 40 = .ok (.getfield 20, 3) := by decide +kernel
theorem dX2_takeLatest_43 : decode cX2_takeLatest 43 = .ok (.aaload, 1) := by decide +kernel
theorem dX2_takeLatest_44 : decode cX2_takeLatest 44 = .ok (.areturn, 1) := by decide +kernel
theorem dX3_init_0 : decode cX3_init 0 = .ok (.aload_n 0, 1) := by decide +kernel
theorem dX3_init_1 : decode cX3_init 1 = .ok (.invokespecial 3, 3) := by decide +kernel
theorem dX3_init_4 : decode cX3_init 4 = .ok (.aload_n 0, 1) := by decide +kernel
theorem dX3_init_5 : decode cX3_init 5 = .ok (.sipush 216, 3) := by decide +kernel
theorem dX3_init_8 : decode cX3_init 8 = .ok (.newarray .long, 2) := by decide +kernel
theorem dX3_init_10 : decode cX3_init 10 = .ok (.putfield 11, 3) := by decide +kernel
theorem dX3_init_13 : decode cX3_init 13 = .ok (.aload_n 0, 1) := by decide +kernel
theorem dX3_init_14 : decode cX3_init 14 = .ok (.sipush 216, 3) := by decide +kernel
theorem dX3_init_17 : decode cX3_init 17 = .ok (.newarray .long, 2) := by decide +kernel
theorem dX3_init_19 : decode cX3_init 19 = .ok (.putfield 15, 3) := by decide +kernel
theorem dX3_init_22 : decode cX3_init 22 = .ok (.return_, 1) := by decide +kernel
theorem dX3_areAlike_0 : decode cX3_areAlike 0 = .ok (.aload_n 0, 1) := by decide +kernel
theorem dX3_areAlike_1 : decode cX3_areAlike 1 = .ok (.getfield 15, 3) := by decide +kernel
theorem dX3_areAlike_4 : decode cX3_areAlike 4 = .ok (.lconst 0, 1) := by decide +kernel
theorem dX3_areAlike_5 : decode cX3_areAlike 5 = .ok (.invokestatic 18, 3) := by decide +kernel
theorem dX3_areAlike_8 : decode cX3_areAlike 8 = .ok (.iconst 1, 1) := by decide +kernel
theorem dX3_areAlike_9 : decode cX3_areAlike 9 = .ok (.istore 4, 2) := by decide +kernel
theorem dX3_areAlike_11 : decode cX3_areAlike 11 = .ok (.iconst 0, 1) := by decide +kernel
theorem dX3_areAlike_12 : decode cX3_areAlike 12 = .ok (.istore 5, 2) := by decide +kernel
theorem dX3_areAlike_14 : decode cX3_areAlike 14 = .ok (.iload 5, 2) := by decide +kernel
theorem dX3_areAlike_16 : decode cX3_areAlike 16 = .ok (.iload_n 2, 1) := by decide +kernel
theorem dX3_areAlike_17 : decode cX3_areAlike 17 = .ok (.if_icmp .ge 15, 3) := by decide +kernel
theorem dX3_areAlike_20 : decode cX3_areAlike 20 = .ok (.iload 4, 2) := by decide +kernel
theorem dX3_areAlike_22 : decode cX3_areAlike 22 = .ok (.iconst 4, 1) := by decide +kernel
theorem dX3_areAlike_23 : decode cX3_areAlike 23 = .ok (.imul, 1) := by decide +kernel
theorem dX3_areAlike_24 : decode cX3_areAlike 24 = .ok (.istore 4, 2) := by decide +kernel
theorem dX3_areAlike_26 : decode cX3_areAlike 26 = .ok (.iinc 5 1, 3) := by decide +kernel
theorem dX3_areAlike_29 : decode cX3_areAlike 29 = .ok (.goto (-15), 3) := by decide +kernel
theorem dX3_areAlike_32 : decode cX3_areAlike 32 = .ok (.iconst 0, 1) := by decide +kernel
theorem dX3_areAlike_33 : decode cX3_areAlike 33 = .ok (.istore 5, 2) := by decide +kernel
theorem dX3_areAlike_35 : decode cX3_areAlike 35 = .ok (.iload 5, 2) := by decide +kernel
theorem dX3_areAlike_37 : decode cX3_areAlike 37 = .ok (.iload 4, 2) := by decide +kernel
theorem dX3_areAlike_39 : decode cX3_areAlike 39 = .ok (.if_icmp .ge 46, 3) := by decide +kernel
theorem dX3_areAlike_42 : decode cX3_areAlike 42 = .ok (.aload_n 1, 1) := by decide +kernel
theorem dX3_areAlike_43 : decode cX3_areAlike 43 = .ok (.iload_n 2, 1) := by decide +kernel
theorem dX3_areAlike_44 : decode cX3_areAlike 44 = .ok (.iload 5, 2) := by decide +kernel
theorem dX3_areAlike_46 : decode cX3_areAlike 46 = .ok (.invokevirtual 24, 3) := by decide +kernel
theorem dX3_areAlike_49 : decode cX3_areAlike 49 = .ok (.ifCond .eq 30, 3) := by decide +kernel
theorem dX3_areAlike_52 : decode cX3_areAlike 52 = .ok (.aload_n 3, 1) := by decide +kernel
theorem dX3_areAlike_53 : decode cX3_areAlike 53 = .ok (.aload_n 1, 1) := by decide +kernel
theorem dX3_areAlike_54 : decode cX3_areAlike 54 = .ok (.iload_n 2, 1) := by decide +kernel
theorem dX3_areAlike_55 : decode cX3_areAlike 55 = .ok (.iload 5, 2) := by decide +kernel
theorem dX3_areAlike_57 : decode cX3_areAlike 57 = .ok (.invokevirtual 30, 3) := by decide +kernel
theorem dX3_areAlike_60 : decode cX3_areAlike 60 = .ok (.ifCond .eq 19, 3) := by decide +kernel
theorem dX3_areAlike_63 : decode cX3_areAlike 63 = .ok (.aload_n 0, 1) := by decide +kernel
theorem dX3_areAlike_64 : decode cX3_areAlike 64 = .ok (.iload_n 2, 1) := by decide +kernel
theorem dX3_areAlike_65 : decode cX3_areAlike 65 = .ok (.iload 5, 2) := by decide +kernel
theorem dX3_areAlike_67 : decode cX3_areAlike 67 = .ok (.invokestatic 36, 3) := by decide +kernel
theorem dX3_areAlike_70 : decode cX3_areAlike 70 = .ok (.aload_n 3, 1) := by decide +kernel
theorem dX3_areAlike_71 : decode cX3_areAlike 71 = .ok (.invokevirtual 40, 3) := by decide +kernel
theorem dX3_areAlike_74 : decode cX3_areAlike 74 = .ok (.ifCond .ne 5, 3) := by decide +kernel
theorem dX3_areAlike_77 : decode cX3_areAlike 77 = .ok (.iconst 0, 1) := by decide +kernel
theorem dX3_areAlike_78 : decode cX3_areAlike 78 = .ok (.ireturn, 1) := by decide +kernel
theorem dX3_areAlike_79 : decode cX3_areAlike 79 = .ok (.iinc 5 1, 3) := by decide +kernel
theorem dX3_areAlike_82 : decode cX3_areAlike 82 = .ok (.goto (-47), 3) := by decide +kernel
theorem dX3_areAlike_85 : decode cX3_areAlike 85 = .ok (.iconst 1, 1) := by decide +kernel
theorem dX3_areAlike_86 : decode cX3_areAlike 86 = .ok (.ireturn, 1) := by decide +kernel
theorem dX3_placeOf_0 : decode cX3_placeOf 0 = .ok (.iconst 0, 1) := by decide +kernel
theorem dX3_placeOf_1 : decode cX3_placeOf 1 = .ok (.istore_n 2, 1) := by decide +kernel
theorem dX3_placeOf_2 : decode cX3_placeOf 2 = .ok (.iload_n 1, 1) := by decide +kernel
theorem dX3_placeOf_3 : decode cX3_placeOf 3 = .ok (.istore_n 3, 1) := by decide +kernel
theorem dX3_placeOf_4 : decode cX3_placeOf 4 = .ok (.iconst 0, 1) := by decide +kernel
theorem dX3_placeOf_5 : decode cX3_placeOf 5 = .ok (.istore 4, 2) := by decide +kernel
theorem dX3_placeOf_7 : decode cX3_placeOf 7 = .ok (.iload 4, 2) := by decide +kernel
theorem dX3_placeOf_9 : decode cX3_placeOf 9 = .ok (.iload_n 0, 1) := by decide +kernel
theorem dX3_placeOf_10 : decode cX3_placeOf 10 = .ok (.if_icmp .ge 23, 3) := by decide +kernel
theorem dX3_placeOf_13 : decode cX3_placeOf 13 = .ok (.iload_n 2, 1) := by decide +kernel
theorem dX3_placeOf_14 : decode cX3_placeOf 14 = .ok (.getstatic 44, 3) := by decide +kernel
theorem dX3_placeOf_17 : decode cX3_placeOf 17 = .ok (.iload_n 3, 1) := by decide +kernel
theorem dX3_placeOf_18 : decode cX3_placeOf 18 = .ok (.iconst 4, 1) := by decide +kernel
theorem dX3_placeOf_19 : decode cX3_placeOf 19 = .ok (.irem, 1) := by decide +kernel
theorem dX3_placeOf_20 : decode cX3_placeOf 20 = .ok (.iaload, 1) := by decide +kernel
theorem dX3_placeOf_21 : decode cX3_placeOf 21 = .ok (.iadd, 1) := by decide +kernel
theorem dX3_placeOf_22 : decode cX3_placeOf 22 = .ok (.istore_n 2, 1) := by decide +kernel
theorem dX3_placeOf_23 : decode cX3_placeOf 23 = .ok (.iload_n 3, 1) := by decide +kernel
theorem dX3_placeOf_24 : decode cX3_placeOf 24 = .ok (.iconst 4, 1) := by decide +kernel
theorem dX3_placeOf_25 : decode cX3_placeOf 25 = .ok (.idiv, 1) := by decide +kernel
theorem dX3_placeOf_26 : decode cX3_placeOf 26 = .ok (.istore_n 3, 1) := by decide +kernel
theorem dX3_placeOf_27 : decode cX3_placeOf 27 = .ok (.iinc 4 1, 3) := by decide +kernel
theorem dX3_placeOf_30 : decode cX3_placeOf 30 = .ok (.goto (-23), 3) := by decide +kernel
theorem dX3_placeOf_33 : decode cX3_placeOf 33 = .ok (.iload_n 2, 1) := by decide +kernel
theorem dX3_placeOf_34 : decode cX3_placeOf 34 = .ok (.ireturn, 1) := by decide +kernel
theorem dX3_isAsAhead_0 : decode cX3_isAsAhead 0 = .ok (.aload_n 0, 1) := by decide +kernel
theorem dX3_isAsAhead_1 : decode cX3_isAsAhead 1 = .ok (.getfield 15, 3) := by decide +kernel
theorem dX3_isAsAhead_4 : decode cX3_isAsAhead 4 = .ok (.iload_n 1, 1) := by decide +kernel
theorem dX3_isAsAhead_5 : decode cX3_isAsAhead 5 = .ok (.laload, 1) := by decide +kernel
theorem dX3_isAsAhead_6 : decode cX3_isAsAhead 6 = .ok (.lconst 0, 1) := by decide +kernel
theorem dX3_isAsAhead_7 : decode cX3_isAsAhead 7 = .ok (.lcmp, 1) := by decide +kernel
theorem dX3_isAsAhead_8 : decode cX3_isAsAhead 8 = .ok (.ifCond .ne 25, 3) := by decide +kernel
theorem dX3_isAsAhead_11 : decode cX3_isAsAhead 11 = .ok (.aload_n 0, 1) := by decide +kernel
theorem dX3_isAsAhead_12 : decode cX3_isAsAhead 12 = .ok (.getfield 11, 3) := by decide +kernel
theorem dX3_isAsAhead_15 : decode cX3_isAsAhead 15 = .ok (.iload_n 1, 1) := by decide +kernel
theorem dX3_isAsAhead_16 : decode cX3_isAsAhead 16 = .ok (.aload_n 2, 1) := by decide +kernel
theorem dX3_isAsAhead_17 : decode cX3_isAsAhead 17 = .ok (.getfield 48, 3) := by decide +kernel
theorem dX3_isAsAhead_20 : decode cX3_isAsAhead 20 = .ok (.lastore, 1) := by decide +kernel
theorem dX3_isAsAhead_21 : decode cX3_isAsAhead 21 = .ok (.aload_n 0, 1) := by decide +kernel
theorem dX3_isAsAhead_22 : decode cX3_isAsAhead 22 = .ok (.getfield 15, 3) := by decide +kernel
theorem dX3_isAsAhead_25 : decode cX3_isAsAhead 25 = .ok (.iload_n 1, 1) := by decide +kernel
theorem dX3_isAsAhead_26 : decode cX3_isAsAhead 26 = .ok (.aload_n 2, 1) := by decide +kernel
theorem dX3_isAsAhead_27 : decode cX3_isAsAhead 27 = .ok (.getfield 52, 3) := by decide +kernel
theorem dX3_isAsAhead_30 : decode cX3_isAsAhead 30 = .ok (.lastore, 1) := by decide +kernel
theorem dX3_isAsAhead_31 : decode cX3_isAsAhead 31 = .ok (.iconst 1, 1) := by decide +kernel
theorem dX3_isAsAhead_32 : decode cX3_isAsAhead 32 = .ok (.ireturn, 1) := by decide +kernel
theorem dX3_isAsAhead_33 : decode cX3_isAsAhead 33 = .ok (.aload_n 0, 1) := by decide +kernel
theorem dX3_isAsAhead_34 : decode cX3_isAsAhead 34 = .ok (.getfield 11, 3) := by decide +kernel
theorem dX3_isAsAhead_37 : decode cX3_isAsAhead 37 = .ok (.iload_n 1, 1) := by decide +kernel
theorem dX3_isAsAhead_38 : decode cX3_isAsAhead 38 = .ok (.laload, 1) := by decide +kernel
theorem dX3_isAsAhead_39 : decode cX3_isAsAhead 39 = .ok (.aload_n 2, 1) := by decide +kernel
theorem dX3_isAsAhead_40 : decode cX3_isAsAhead 40 = .ok (.getfield 48, 3) := by decide +kernel
theorem dX3_isAsAhead_43 : decode cX3_isAsAhead 43 = .ok (.lcmp, 1) := by decide +kernel
theorem dX3_isAsAhead_44 : decode cX3_isAsAhead 44 = .ok (.ifCond .ne 21, 3) := by decide +kernel
theorem dX3_isAsAhead_47 : decode cX3_isAsAhead 47 = .ok (.aload_n 0, 1) := by decide +kernel
theorem dX3_isAsAhead_48 : decode cX3_isAsAhead 48 = .ok (.getfield 15, 3) := by decide +kernel
theorem dX3_isAsAhead_51 : decode cX3_isAsAhead 51 = .ok (.iload_n 1, 1) := by decide +kernel
theorem dX3_isAsAhead_52 : decode cX3_isAsAhead 52 = .ok (.laload, 1) := by decide +kernel
theorem dX3_isAsAhead_53 : decode cX3_isAsAhead 53 = .ok (.aload_n 2, 1) := by decide +kernel
theorem dX3_isAsAhead_54 : decode cX3_isAsAhead 54 = .ok (.getfield 52, 3) := by decide +kernel
theorem dX3_isAsAhead_57 : decode cX3_isAsAhead 57 = .ok (.lcmp, 1) := by decide +kernel
theorem dX3_isAsAhead_58 : decode cX3_isAsAhead 58 = .ok (.ifCond .ne 7, 3) := by decide +kernel
theorem dX3_isAsAhead_61 : decode cX3_isAsAhead 61 = .ok (.iconst 1, 1) := by decide +kernel
theorem dX3_isAsAhead_62 : decode cX3_isAsAhead 62 = .ok (.goto 4, 3) := by decide +kernel
theorem dX3_isAsAhead_65 : decode cX3_isAsAhead 65 = .ok (.iconst 0, 1) := by decide +kernel
theorem dX3_isAsAhead_66 : decode cX3_isAsAhead 66 = .ok (.ireturn, 1) := by decide +kernel
theorem dX4_init_0 : decode cX4_init 0 = .ok (.aload_n 0, 1) := by decide +kernel
theorem dX4_init_1 : decode cX4_init 1 = .ok (.invokespecial 3, 3) := by decide +kernel
theorem dX4_init_4 : decode cX4_init 4 = .ok (.aload_n 0, 1) := by decide +kernel
theorem dX4_init_5 : decode cX4_init 5 = .ok (.bipush 8, 2) := by decide +kernel
theorem dX4_init_7 : decode cX4_init 7 = .ok (.newarray .int, 2) := by decide +kernel
theorem dX4_init_9 : decode cX4_init 9 = .ok (.putfield 9, 3) := by decide +kernel
theorem dX4_init_12 : decode cX4_init 12 = .ok (.aload_n 0, 1) := by decide +kernel
theorem dX4_init_13 : decode cX4_init 13 = .ok (.bipush 8, 2) := by decide +kernel
theorem dX4_init_15 : decode cX4_init 15 = .ok (.newarray .int, 2) := by decide +kernel
theorem dX4_init_17 : decode cX4_init 17 = .ok (.putfield 15, 3) := by decide +kernel
theorem dX4_init_20 : decode cX4_init 20 = .ok (.aload_n 0, 1) := by decide +kernel
theorem dX4_init_21 : decode cX4_init 21 = .ok (.iconst 0, 1) := by decide +kernel
theorem dX4_init_22 : decode cX4_init 22 = .ok (.putfield 18, 3) := by decide +kernel
theorem dX4_init_25 : decode cX4_init 25 = .ok (.aload_n 0, 1) := by decide +kernel
theorem dX4_init_26 : decode cX4_init 26 = .ok (.lconst 0, 1) := by decide +kernel
theorem dX4_init_27 : decode cX4_init 27 = .ok (.putfield 22, 3) := by decide +kernel
theorem dX4_init_30 : decode cX4_init 30 = .ok (.return_, 1) := by decide +kernel
theorem dX5_init_0 : decode cX5_init 0 = .ok (.aload_n 0, 1) := by decide +kernel
theorem dX5_init_1 : decode cX5_init 1 = .ok (.invokespecial 3, 3) := by decide +kernel
theorem dX5_init_4 : decode cX5_init 4 = .ok (.aload_n 0, 1) := by decide +kernel
theorem dX5_init_5 : decode cX5_init 5 = .ok (.iconst 4, 1) := by decide +kernel
theorem dX5_init_6 : decode cX5_init 6 = .ok (.newarray .int, 2) := by decide +kernel
theorem dX5_init_8 : decode cX5_init 8 = .ok (.putfield 9, 3) := by decide +kernel
theorem dX5_init_11 : decode cX5_init 11 = .ok (.aload_n 0, 1) := by decide +kernel
theorem dX5_init_12 : decode cX5_init 12 = .ok (.lconst 0, 1) := by decide +kernel
theorem dX5_init_13 : decode cX5_init 13 = .ok (.putfield 15, 3) := by decide +kernel
theorem dX5_init_16 : decode cX5_init 16 = .ok (.aload_n 0, 1) := by decide +kernel
theorem dX5_init_17 : decode cX5_init 17 = .ok (.lconst 1, 1) := by decide +kernel
theorem dX5_init_18 : decode cX5_init 18 = .ok (.putfield 19, 3) := by decide +kernel
theorem dX5_init_21 : decode cX5_init 21 = .ok (.return_, 1) := by decide +kernel
theorem dX5_follow_0 : decode cX5_follow 0 = .ok (.aload_n 1, 1) := by decide +kernel
theorem dX5_follow_1 : decode cX5_follow 1 = .ok (.getfield 22, 3) := by decide +kernel
theorem dX5_follow_4 : decode cX5_follow 4 = .ok (.iconst 0, 1) := by decide +kernel
theorem dX5_follow_5 : decode cX5_follow 5 = .ok (.aload_n 0, 1) := by decide +kernel
theorem dX5_follow_6 : decode cX5_follow 6 = .ok (.getfield 9, 3) := by decide +kernel
theorem dX5_follow_9 : decode cX5_follow 9 = .ok (.iconst 0, 1) := by decide +kernel
theorem dX5_follow_10 : decode cX5_follow 10 = .ok (.iconst 4, 1) := by decide +kernel
theorem dX5_follow_11 : decode cX5_follow 11 = .ok (.invokestatic 25, 3) := by decide +kernel
theorem dX5_follow_14 : decode cX5_follow 14 = .ok (.aload_n 0, 1) := by decide +kernel
theorem dX5_follow_15 : decode cX5_follow 15 = .ok (.lconst 1, 1) := by decide +kernel
theorem dX5_follow_16 : decode cX5_follow 16 = .ok (.putfield 15, 3) := by decide +kernel
theorem dX5_follow_19 : decode cX5_follow 19 = .ok (.aload_n 0, 1) := by decide +kernel
theorem dX5_follow_20 : decode cX5_follow 20 = .ok (.lconst 1, 1) := by decide +kernel
theorem dX5_follow_21 : decode cX5_follow 21 = .ok (.putfield 19, 3) := by decide +kernel
theorem dX5_follow_24 : decode cX5_follow 24 = .ok (.iload_n 3, 1) := by decide +kernel
theorem dX5_follow_25 : decode cX5_follow 25 = .ok (.istore 4, 2) := by decide +kernel
theorem dX5_follow_27 : decode cX5_follow 27 = .ok (.iconst 0, 1) := by decide +kernel
theorem dX5_follow_28 : decode cX5_follow 28 = .ok (.istore 5, 2) := by decide +kernel
theorem dX5_follow_30 : decode cX5_follow 30 = .ok (.iload 5, 2) := by decide +kernel
theorem dX5_follow_32 : decode cX5_follow 32 = .ok (.iload_n 2, 1) := by decide +kernel
theorem dX5_follow_33 : decode cX5_follow 33 = .ok (.if_icmp .ge 99, 3) := by decide +kernel
theorem dX5_follow_36 : decode cX5_follow 36 = .ok (.iload 4, 2) := by decide +kernel
theorem dX5_follow_38 : decode cX5_follow 38 = .ok (.iconst 4, 1) := by decide +kernel
theorem dX5_follow_39 : decode cX5_follow 39 = .ok (.irem, 1) := by decide +kernel
theorem dX5_follow_40 : decode cX5_follow 40 = .ok (.istore 6, 2) := by decide +kernel
theorem dX5_follow_42 : decode cX5_follow 42 = .ok (.aload_n 1, 1) := by decide +kernel
theorem dX5_follow_43 : decode cX5_follow 43 = .ok (.aload_n 0, 1) := by decide +kernel
theorem dX5_follow_44 : decode cX5_follow 44 = .ok (.getfield 9, 3) := by decide +kernel
theorem dX5_follow_47 : decode cX5_follow 47 = .ok (.iload 6, 2) := by decide +kernel
theorem dX5_follow_49 : decode cX5_follow 49 = .ok (.invokevirtual 31, 3) := by decide +kernel
theorem dX5_follow_52 : decode cX5_follow 52 = .ok (.ifCond .ne 15, 3) := by decide +kernel
theorem dX5_follow_55 : decode cX5_follow 55 = .ok (.aload_n 0, 1) := by decide +kernel
theorem dX5_follow_56 : decode cX5_follow 56 = .ok (.lconst 0, 1) := by decide +kernel
theorem dX5_follow_57 : decode cX5_follow 57 = .ok (.putfield 15, 3) := by decide +kernel
theorem dX5_follow_60 : decode cX5_follow 60 = .ok (.aload_n 0, 1) := by decide +kernel
theorem dX5_follow_61 : decode cX5_follow 61 = .ok (.lconst 1, 1) := by decide +kernel
theorem dX5_follow_62 : decode cX5_follow 62 = .ok (.putfield 19, 3) := by decide +kernel
theorem dX5_follow_65 : decode cX5_follow 65 = .ok (.iconst 1, 1) := by decide +kernel
theorem dX5_follow_66 : decode cX5_follow 66 = .ok (.ireturn, 1) := by decide +kernel
theorem dX5_follow_67 : decode cX5_follow 67 = .ok (.aload_n 0, 1) := by decide +kernel
theorem dX5_follow_68 : decode cX5_follow 68 = .ok (.aload_n 0, 1) := by decide +kernel
theorem dX5_follow_69 : decode cX5_follow 69 = .ok (.getfield 9, 3) := by decide +kernel
theorem dX5_follow_72 : decode cX5_follow 72 = .ok (.iload 6, 2) := by decide +kernel
theorem dX5_follow_74 : decode cX5_follow 74 = .ok (.iaload, 1) := by decide +kernel
theorem dX5_follow_75 : decode cX5_follow 75 = .ok (.aload_n 0, 1) := by decide +kernel
theorem dX5_follow_76 : decode cX5_follow 76 = .ok (.getfield 9, 3) := by decide +kernel
theorem dX5_follow_79 : decode cX5_follow 79 = .ok (.iconst 0, 1) := by decide +kernel
theorem dX5_follow_80 : decode cX5_follow 80 = .ok (.iaload, 1) := by decide +kernel
theorem dX5_follow_81 : decode cX5_follow 81 = .ok (.aload_n 0, 1) := by decide +kernel
theorem dX5_follow_82 : decode cX5_follow 82 = .ok (.getfield 9, 3) := by decide +kernel
theorem dX5_follow_85 : decode cX5_follow 85 = .ok (.iconst 1, 1) := by decide +kernel
theorem dX5_follow_86 : decode cX5_follow 86 = .ok (.iaload, 1) := by decide +kernel
theorem dX5_follow_87 : decode cX5_follow 87 = .ok (.iadd, 1) := by decide +kernel
theorem dX5_follow_88 : decode cX5_follow 88 = .ok (.aload_n 0, 1) := by decide +kernel
theorem dX5_follow_89 : decode cX5_follow 89 = .ok (.getfield 9, 3) := by decide +kernel
theorem dX5_follow_92 : decode cX5_follow 92 = .ok (.iconst 2, 1) := by decide +kernel
theorem dX5_follow_93 : decode cX5_follow 93 = .ok (.iaload, 1) := by decide +kernel
theorem dX5_follow_94 : decode cX5_follow 94 = .ok (.iadd, 1) := by decide +kernel
theorem dX5_follow_95 : decode cX5_follow 95 = .ok (.aload_n 0, 1) := by decide +kernel
theorem dX5_follow_96 : decode cX5_follow 96 = .ok (.getfield 9, 3) := by decide +kernel
theorem dX5_follow_99 : decode cX5_follow 99 = .ok (.iconst 3, 1) := by decide +kernel
theorem dX5_follow_100 : decode cX5_follow 100 = .ok (.iaload, 1) := by decide +kernel
theorem dX5_follow_101 : decode cX5_follow 101 = .ok (.iadd, 1) := by decide +kernel
theorem dX5_follow_102 : decode cX5_follow 102 = .ok (.invokevirtual 35, 3) := by decide +kernel
theorem dX5_follow_105 : decode cX5_follow 105 = .ok (.ifCond .ne 5, 3) := by decide +kernel
theorem dX5_follow_108 : decode cX5_follow 108 = .ok (.iconst 0, 1) := by decide +kernel
theorem dX5_follow_109 : decode cX5_follow 109 = .ok (.ireturn, 1) := by decide +kernel
theorem dX5_follow_110 : decode cX5_follow 110 = .ok (.aload_n 1, 1) := by decide +kernel
theorem dX5_follow_111 : decode cX5_follow 111 = .ok (.aload_n 0, 1) := by decide +kernel
theorem dX5_follow_112 : decode cX5_follow 112 = .ok (.getfield 9, 3) := by decide +kernel
theorem dX5_follow_115 : decode cX5_follow 115 = .ok (.iload 6, 2) := by decide +kernel
theorem dX5_follow_117 : decode cX5_follow 117 = .ok (.invokevirtual 39, 3) := by decide +kernel
theorem dX5_follow_120 : decode cX5_follow 120 = .ok (.iload 4, 2) := by decide +kernel
theorem dX5_follow_122 : decode cX5_follow 122 = .ok (.iconst 4, 1) := by decide +kernel
theorem dX5_follow_123 : decode cX5_follow 123 = .ok (.idiv, 1) := by decide +kernel
theorem dX5_follow_124 : decode cX5_follow 124 = .ok (.istore 4, 2) := by decide +kernel
theorem dX5_follow_126 : decode cX5_follow 126 = .ok (.iinc 5 1, 3) := by decide +kernel
theorem dX5_follow_129 : decode cX5_follow 129 = .ok (.goto (-99), 3) := by decide +kernel
theorem dX5_follow_132 : decode cX5_follow 132 = .ok (.iconst 1, 1) := by decide +kernel
theorem dX5_follow_133 : decode cX5_follow 133 = .ok (.ireturn, 1) := by decide +kernel
theorem dX5_comeTimes_0 : decode cX5_comeTimes 0 = .ok (.iload_n 1, 1) := by decide +kernel
theorem dX5_comeTimes_1 : decode cX5_comeTimes 1 = .ok (.i2l, 1) := by decide +kernel
theorem dX5_comeTimes_2 : decode cX5_comeTimes 2 = .ok (.iload_n 2, 1) := by decide +kernel
theorem dX5_comeTimes_3 : decode cX5_comeTimes 3 = .ok (.i2l, 1) := by decide +kernel
theorem dX5_comeTimes_4 : decode cX5_comeTimes 4 = .ok (.invokestatic 43, 3) := by decide +kernel
theorem dX5_comeTimes_7 : decode cX5_comeTimes 7 = .ok (.lstore_n 3, 1) := by decide +kernel
theorem dX5_comeTimes_8 : decode cX5_comeTimes 8 = .ok (.iload_n 1, 1) := by decide +kernel
theorem dX5_comeTimes_9 : decode cX5_comeTimes 9 = .ok (.i2l, 1) := by decide +kernel
theorem dX5_comeTimes_10 : decode cX5_comeTimes 10 = .ok (.lload_n 3, 1) := by decide +kernel
theorem dX5_comeTimes_11 : decode cX5_comeTimes 11 = .ok (.ldiv, 1) := by decide +kernel
theorem dX5_comeTimes_12 : decode cX5_comeTimes 12 = .ok (.lstore 5, 2) := by decide +kernel
theorem dX5_comeTimes_14 : decode cX5_comeTimes 14 = .ok (.iload_n 2, 1) := by decide +kernel
theorem dX5_comeTimes_15 : decode cX5_comeTimes 15 = .ok (.i2l, 1) := by decide +kernel
theorem dX5_comeTimes_16 : decode cX5_comeTimes 16 = .ok (.lload_n 3, 1) := by decide +kernel
theorem dX5_comeTimes_17 : decode cX5_comeTimes 17 = .ok (.ldiv, 1) := by decide +kernel
theorem dX5_comeTimes_18 : decode cX5_comeTimes 18 = .ok (.lstore 7, 2) := by decide +kernel
theorem dX5_comeTimes_20 : decode cX5_comeTimes 20 = .ok (.aload_n 0, 1) := by decide +kernel
theorem dX5_comeTimes_21 : decode cX5_comeTimes 21 = .ok (.getfield 15, 3) := by decide +kernel
theorem dX5_comeTimes_24 : decode cX5_comeTimes 24 = .ok (.lload 7, 2) := by decide +kernel
theorem dX5_comeTimes_26 : decode cX5_comeTimes 26 = .ok (.invokestatic 43, 3) := by decide +kernel
theorem dX5_comeTimes_29 : decode cX5_comeTimes 29 = .ok (.lstore 9, 2) := by decide +kernel
theorem dX5_comeTimes_31 : decode cX5_comeTimes 31 = .ok (.lload 5, 2) := by decide +kernel
theorem dX5_comeTimes_33 : decode cX5_comeTimes 33 = .ok (.aload_n 0, 1) := by decide +kernel
theorem dX5_comeTimes_34 : decode cX5_comeTimes 34 = .ok (.getfield 19, 3) := by decide +kernel
theorem dX5_comeTimes_37 : decode cX5_comeTimes 37 = .ok (.invokestatic 43, 3) := by decide +kernel
theorem dX5_comeTimes_40 : decode cX5_comeTimes 40 = .ok (.lstore 11, 2) := by decide +kernel
theorem dX5_comeTimes_42 : decode cX5_comeTimes 42 = .ok (.aload_n 0, 1) := by decide +kernel
theorem dX5_comeTimes_43 : decode cX5_comeTimes 43 = .ok (.dup, 1) := by decide +kernel
theorem dX5_comeTimes_44 : decode cX5_comeTimes 44 = .ok (.getfield 15, 3) := by decide +kernel
theorem dX5_comeTimes_47 : decode cX5_comeTimes 47 = .ok (.lload 9, 2) := by decide +kernel
theorem dX5_comeTimes_49 : decode cX5_comeTimes 49 = .ok (.ldiv, 1) := by decide +kernel
theorem dX5_comeTimes_50 : decode cX5_comeTimes 50 = .ok (.putfield 15, 3) := by decide +kernel
theorem dX5_comeTimes_53 : decode cX5_comeTimes 53 = .ok (.lload 7, 2) := by decide +kernel
theorem dX5_comeTimes_55 : decode cX5_comeTimes 55 = .ok (.lload 9, 2) := by decide +kernel
theorem dX5_comeTimes_57 : decode cX5_comeTimes 57 = .ok (.ldiv, 1) := by decide +kernel
theorem dX5_comeTimes_58 : decode cX5_comeTimes 58 = .ok (.lstore 7, 2) := by decide +kernel
theorem dX5_comeTimes_60 : decode cX5_comeTimes 60 = .ok (.aload_n 0, 1) := by decide +kernel
theorem dX5_comeTimes_61 : decode cX5_comeTimes 61 = .ok (.dup, 1) := by decide +kernel
theorem dX5_comeTimes_62 : decode cX5_comeTimes 62 = .ok (.getfield 19, 3) := by decide +kernel
theorem dX5_comeTimes_65 : decode cX5_comeTimes 65 = .ok (.lload 11, 2) := by decide +kernel
theorem dX5_comeTimes_67 : decode cX5_comeTimes 67 = .ok (.ldiv, 1) := by decide +kernel
theorem dX5_comeTimes_68 : decode cX5_comeTimes 68 = .ok (.putfield 19, 3) := by decide +kernel
theorem dX5_comeTimes_71 : decode cX5_comeTimes 71 = .ok (.lload 5, 2) := by decide +kernel
theorem dX5_comeTimes_73 : decode cX5_comeTimes 73 = .ok (.lload 11, 2) := by decide +kernel
theorem dX5_comeTimes_75 : decode cX5_comeTimes 75 = .ok (.ldiv, 1) := by decide +kernel
theorem dX5_comeTimes_76 : decode cX5_comeTimes 76 = .ok (.lstore 5, 2) := by decide +kernel
theorem dX5_comeTimes_78 : decode cX5_comeTimes 78 = .ok (.lload 5, 2) := by decide +kernel
theorem dX5_comeTimes_80 : decode cX5_comeTimes 80 = .ok (.lconst 1, 1) := by decide +kernel
theorem dX5_comeTimes_81 : decode cX5_comeTimes 81 = .ok (.lcmp, 1) := by decide +kernel
theorem dX5_comeTimes_82 : decode cX5_comeTimes 82 = .ok (.ifCond .lt 38, 3) := by decide +kernel
theorem dX5_comeTimes_85 : decode cX5_comeTimes 85 = .ok (.lload 7, 2) := by decide +kernel
theorem dX5_comeTimes_87 : decode cX5_comeTimes 87 = .ok (.lconst 1, 1) := by decide +kernel
theorem dX5_comeTimes_88 : decode cX5_comeTimes 88 = .ok (.lcmp, 1) := by decide +kernel
theorem dX5_comeTimes_89 : decode cX5_comeTimes 89 = .ok (.ifCond .lt 31, 3) := by decide +kernel
theorem dX5_comeTimes_92 : decode cX5_comeTimes 92 = .ok (.aload_n 0, 1) := by decide +kernel
theorem dX5_comeTimes_93 : decode cX5_comeTimes 93 = .ok (.getfield 15, 3) := by decide +kernel
theorem dX5_comeTimes_96 : decode cX5_comeTimes 96 = .ok (.ldc2_w 47, 3) := by decide +kernel
theorem dX5_comeTimes_99 : decode cX5_comeTimes 99 = .ok (.lload 5, 2) := by decide +kernel
theorem dX5_comeTimes_101 : decode cX5_comeTimes 101 = .ok (.ldiv, 1) := by decide +kernel
theorem dX5_comeTimes_102 : decode cX5_comeTimes 102 = .ok (.lcmp, 1) := by decide +kernel
theorem dX5_comeTimes_103 : decode cX5_comeTimes 103 = .ok (.ifCond .gt 17, 3) := by decide +kernel
theorem dX5_comeTimes_106 : decode cX5_comeTimes 106 = .ok (.aload_n 0, 1) := by decide +kernel
theorem dX5_comeTimes_107 : decode cX5_comeTimes 107 = .ok (.getfield 19, 3) := by decide +kernel
theorem dX5_comeTimes_110 : decode cX5_comeTimes 110 = .ok (.ldc2_w 47, 3) := by decide +kernel
theorem dX5_comeTimes_113 : decode cX5_comeTimes 113 = .ok (.lload 7, 2) := by decide +kernel
theorem dX5_comeTimes_115 : decode cX5_comeTimes 115 = .ok (.ldiv, 1) := by decide +kernel
theorem dX5_comeTimes_116 : decode cX5_comeTimes 116 = .ok (.lcmp, 1) := by decide +kernel
theorem dX5_comeTimes_117 : decode cX5_comeTimes 117 = .ok (.ifCond .le 5, 3) := by decide +kernel
theorem dX5_comeTimes_120 : decode cX5_comeTimes 120 = .ok (.iconst 0, 1) := by decide +kernel
theorem dX5_comeTimes_121 : decode cX5_comeTimes 121 = .ok (.ireturn, 1) := by decide +kernel
theorem dX5_comeTimes_122 : decode cX5_comeTimes 122 = .ok (.aload_n 0, 1) := by decide +kernel
theorem dX5_comeTimes_123 : decode cX5_comeTimes 123 = .ok (.dup, 1) := by decide +kernel
theorem dX5_comeTimes_124 : decode cX5_comeTimes 124 = .ok (.getfield 15, 3) := by decide +kernel
theorem dX5_comeTimes_127 : decode cX5_comeTimes 127 = .ok (.lload 5, 2) := by decide +kernel
theorem dX5_comeTimes_129 : decode cX5_comeTimes 129 = .ok (.lmul, 1) := by decide +kernel
theorem dX5_comeTimes_130 : decode cX5_comeTimes 130 = .ok (.putfield 15, 3) := by decide +kernel
theorem dX5_comeTimes_133 : decode cX5_comeTimes 133 = .ok (.aload_n 0, 1) := by decide +kernel
theorem dX5_comeTimes_134 : decode cX5_comeTimes 134 = .ok (.dup, 1) := by decide +kernel
theorem dX5_comeTimes_135 : decode cX5_comeTimes 135 = .ok (.getfield 19, 3) := by decide +kernel
theorem dX5_comeTimes_138 : decode cX5_comeTimes 138 = .ok (.lload 7, 2) := by decide +kernel
theorem dX5_comeTimes_140 : decode cX5_comeTimes 140 = .ok (.lmul, 1) := by decide +kernel
theorem dX5_comeTimes_141 : decode cX5_comeTimes 141 = .ok (.putfield 19, 3) := by decide +kernel
theorem dX5_comeTimes_144 : decode cX5_comeTimes 144 = .ok (.iconst 1, 1) := by decide +kernel
theorem dX5_comeTimes_145 : decode cX5_comeTimes 145 = .ok (.ireturn, 1) := by decide +kernel
theorem dX6_init_0 : decode cX6_init 0 = .ok (.aload_n 0, 1) := by decide +kernel
theorem dX6_init_1 : decode cX6_init 1 = .ok (.invokespecial 3, 3) := by decide +kernel
theorem dX6_init_4 : decode cX6_init 4 = .ok (.aload_n 0, 1) := by decide +kernel
theorem dX6_init_5 : decode cX6_init 5 = .ok (.bipush 16, 2) := by decide +kernel
theorem dX6_init_7 : decode cX6_init 7 = .ok (.newarray .long, 2) := by decide +kernel
theorem dX6_init_9 : decode cX6_init 9 = .ok (.putfield 9, 3) := by decide +kernel
theorem dX6_init_12 : decode cX6_init 12 = .ok (.aload_n 0, 1) := by decide +kernel
theorem dX6_init_13 : decode cX6_init 13 = .ok (.iconst (-1), 1) := by decide +kernel
theorem dX6_init_14 : decode cX6_init 14 = .ok (.putfield 15, 3) := by decide +kernel
theorem dX6_init_17 : decode cX6_init 17 = .ok (.aload_n 0, 1) := by decide +kernel
theorem dX6_init_18 : decode cX6_init 18 = .ok (.iconst 0, 1) := by decide +kernel
theorem dX6_init_19 : decode cX6_init 19 = .ok (.putfield 19, 3) := by decide +kernel
theorem dX6_init_22 : decode cX6_init 22 = .ok (.return_, 1) := by decide +kernel
theorem dX6_become_0 : decode cX6_become 0 = .ok (.aload_n 0, 1) := by decide +kernel
theorem dX6_become_1 : decode cX6_become 1 = .ok (.iload_n 1, 1) := by decide +kernel
theorem dX6_become_2 : decode cX6_become 2 = .ok (.putfield 15, 3) := by decide +kernel
theorem dX6_become_5 : decode cX6_become 5 = .ok (.aload_n 0, 1) := by decide +kernel
theorem dX6_become_6 : decode cX6_become 6 = .ok (.iload_n 2, 1) := by decide +kernel
theorem dX6_become_7 : decode cX6_become 7 = .ok (.putfield 19, 3) := by decide +kernel
theorem dX6_become_10 : decode cX6_become 10 = .ok (.aload_n 0, 1) := by decide +kernel
theorem dX6_become_11 : decode cX6_become 11 = .ok (.getfield 9, 3) := by decide +kernel
theorem dX6_become_14 : decode cX6_become 14 = .ok (.lconst 0, 1) := by decide +kernel
theorem dX6_become_15 : decode cX6_become 15 = .ok (.invokestatic 22, 3) := by decide +kernel
theorem dX6_become_18 : decode cX6_become 18 = .ok (.return_, 1) := by decide +kernel
theorem dX6_reaches_0 : decode cX6_reaches 0 = .ok (.iload_n 1, 1) := by decide +kernel
theorem dX6_reaches_1 : decode cX6_reaches 1 = .ok (.ifCond .lt 21, 3) := by decide +kernel
theorem dX6_reaches_4 : decode cX6_reaches 4 = .ok (.iload_n 2, 1) := by decide +kernel
theorem dX6_reaches_5 : decode cX6_reaches 5 = .ok (.ifCond .lt 17, 3) := by decide +kernel
theorem dX6_reaches_8 : decode cX6_reaches 8 = .ok (.iload_n 2, 1) := by decide +kernel
theorem dX6_reaches_9 : decode cX6_reaches 9 = .ok (.aload_n 0, 1) := by decide +kernel
theorem dX6_reaches_10 : decode cX6_reaches 10 = .ok (.getfield 19, 3) := by decide +kernel
theorem dX6_reaches_13 : decode cX6_reaches 13 = .ok (.iload_n 1, 1) := by decide +kernel
theorem dX6_reaches_14 : decode cX6_reaches 14 = .ok (.isub, 1) := by decide +kernel
theorem dX6_reaches_15 : decode cX6_reaches 15 = .ok (.if_icmp .gt 7, 3) := by decide +kernel
theorem dX6_reaches_18 : decode cX6_reaches 18 = .ok (.iconst 1, 1) := by decide +kernel
theorem dX6_reaches_19 : decode cX6_reaches 19 = .ok (.goto 4, 3) := by decide +kernel
theorem dX6_reaches_22 : decode cX6_reaches 22 = .ok (.iconst 0, 1) := by decide +kernel
theorem dX6_reaches_23 : decode cX6_reaches 23 = .ok (.ireturn, 1) := by decide +kernel
theorem dX6_cut_0 : decode cX6_cut 0 = .ok (.aload_n 0, 1) := by decide +kernel
theorem dX6_cut_1 : decode cX6_cut 1 = .ok (.getfield 15, 3) := by decide +kernel
theorem dX6_cut_4 : decode cX6_cut 4 = .ok (.ifCond .ne 8, 3) := by decide +kernel
theorem dX6_cut_7 : decode cX6_cut 7 = .ok (.lload_n 1, 1) := by decide +kernel
theorem dX6_cut_8 : decode cX6_cut 8 = .ok (.l2i, 1) := by decide +kernel
theorem dX6_cut_9 : decode cX6_cut 9 = .ok (.i2b, 1) := by decide +kernel
theorem dX6_cut_10 : decode cX6_cut 10 = .ok (.i2l, 1) := by decide +kernel
theorem dX6_cut_11 : decode cX6_cut 11 = .ok (.lreturn, 1) := by decide +kernel
theorem dX6_cut_12 : decode cX6_cut 12 = .ok (.aload_n 0, 1) := by decide +kernel
theorem dX6_cut_13 : decode cX6_cut 13 = .ok (.getfield 15, 3) := by decide +kernel
theorem dX6_cut_16 : decode cX6_cut 16 = .ok (.iconst 1, 1) := by decide +kernel
theorem dX6_cut_17 : decode cX6_cut 17 = .ok (.if_icmp .ne 9, 3) := by decide +kernel
theorem dX6_cut_20 : decode cX6_cut 20 = .ok (.lload_n 1, 1) := by decide +kernel
theorem dX6_cut_21 : decode cX6_cut 21 = .ok (.l2i, 1) := by decide +kernel
theorem dX6_cut_22 : decode cX6_cut 22 = .ok (.i2l, 1) := by decide +kernel
theorem dX6_cut_23 : decode cX6_cut 23 = .ok (.goto 4, 3) := by decide +kernel
theorem dX6_cut_26 : decode cX6_cut 26 = .ok (.lload_n 1, 1) := by decide +kernel
theorem dX6_cut_27 : decode cX6_cut 27 = .ok (.lreturn, 1) := by decide +kernel
theorem dX6_liesWithin_0 : decode cX6_liesWithin 0 = .ok (.iload_n 1, 1) := by decide +kernel
theorem dX6_liesWithin_1 : decode cX6_liesWithin 1 = .ok (.istore 5, 2) := by decide +kernel
theorem dX6_liesWithin_3 : decode cX6_liesWithin 3 = .ok (.iload 5, 2) := by decide +kernel
theorem dX6_liesWithin_5 : decode cX6_liesWithin 5 = .ok (.iload_n 1, 1) := by decide +kernel
theorem dX6_liesWithin_6 : decode cX6_liesWithin 6 = .ok (.iload_n 2, 1) := by decide +kernel
theorem dX6_liesWithin_7 : decode cX6_liesWithin 7 = .ok (.iadd, 1) := by decide +kernel
theorem dX6_liesWithin_8 : decode cX6_liesWithin 8 = .ok (.if_icmp .ge 38, 3) := by decide +kernel
theorem dX6_liesWithin_11 : decode cX6_liesWithin 11 = .ok (.aload_n 0, 1) := by decide +kernel
theorem dX6_liesWithin_12 : decode cX6_liesWithin 12 = .ok (.getfield 9, 3) := by decide +kernel
theorem dX6_liesWithin_15 : decode cX6_liesWithin 15 = .ok (.iload 5, 2) := by decide +kernel
theorem dX6_liesWithin_17 : decode cX6_liesWithin 17 = .ok (.laload, 1) := by decide +kernel
theorem dX6_liesWithin_18 : decode cX6_liesWithin 18 = .ok (.iload_n 3, 1) := by decide +kernel
theorem dX6_liesWithin_19 : decode cX6_liesWithin 19 = .ok (.i2l, 1) := by decide +kernel
theorem dX6_liesWithin_20 : decode cX6_liesWithin 20 = .ok (.lcmp, 1) := by decide +kernel
theorem dX6_liesWithin_21 : decode cX6_liesWithin 21 = .ok (.ifCond .lt 17, 3) := by decide +kernel
theorem dX6_liesWithin_24 : decode cX6_liesWithin 24 = .ok (.aload_n 0, 1) := by decide +kernel
theorem dX6_liesWithin_25 : decode cX6_liesWithin 25 = .ok (.getfield 9, 3) := by decide +kernel
theorem dX6_liesWithin_28 : decode cX6_liesWithin 28 = .ok (.iload 5, 2) := by decide +kernel
theorem dX6_liesWithin_30 : decode cX6_liesWithin 30 = .ok (.laload, 1) := by decide +kernel
theorem dX6_liesWithin_31 : decode cX6_liesWithin 31 = .ok (.iload 4, 2) := by decide +kernel
theorem dX6_liesWithin_33 : decode cX6_liesWithin 33 = .ok (.i2l, 1) := by decide +kernel
theorem dX6_liesWithin_34 : decode cX6_liesWithin 34 = .ok (.lcmp, 1) := by decide +kernel
theorem dX6_liesWithin_35 : decode cX6_liesWithin 35 = .ok (.ifCond .le 5, 3) := by decide +kernel
theorem dX6_liesWithin_38 : decode cX6_liesWithin 38 = .ok (.iconst 0, 1) := by decide +kernel
theorem dX6_liesWithin_39 : decode cX6_liesWithin 39 = .ok (.ireturn, 1) := by decide +kernel
theorem dX6_liesWithin_40 : decode cX6_liesWithin 40 = .ok (.iinc 5 1, 3) := by decide +kernel
theorem dX6_liesWithin_43 : decode cX6_liesWithin 43 = .ok (.goto (-40), 3) := by decide +kernel
theorem dX6_liesWithin_46 : decode cX6_liesWithin 46 = .ok (.iconst 1, 1) := by decide +kernel
theorem dX6_liesWithin_47 : decode cX6_liesWithin 47 = .ok (.ireturn, 1) := by decide +kernel
theorem dX7_init_0 : decode cX7_init 0 = .ok (.aload_n 0, 1) := by decide +kernel
theorem dX7_init_1 : decode cX7_init 1 = .ok (.invokespecial 3, 3) := by decide +kernel
theorem dX7_init_4 : decode cX7_init 4 = .ok (.aload_n 0, 1) := by decide +kernel
theorem dX7_init_5 : decode cX7_init 5 = .ok (.iconst 4, 1) := by decide +kernel
theorem dX7_init_6 : decode cX7_init 6 = .ok (.newarray .int, 2) := by decide +kernel
theorem dX7_init_8 : decode cX7_init 8 = .ok (.putfield 9, 3) := by decide +kernel
theorem dX7_init_11 : decode cX7_init 11 = .ok (.aload_n 0, 1) := by decide +kernel
theorem dX7_init_12 : decode cX7_init 12 = .ok (.bipush 16, 2) := by decide +kernel
theorem dX7_init_14 : decode cX7_init 14 = .ok (.newarray .int, 2) := by decide +kernel
theorem dX7_init_16 : decode cX7_init 16 = .ok (.putfield 15, 3) := by decide +kernel
theorem dX7_init_19 : decode cX7_init 19 = .ok (.aload_n 0, 1) := by decide +kernel
theorem dX7_init_20 : decode cX7_init 20 = .ok (.iconst 4, 1) := by decide +kernel
theorem dX7_init_21 : decode cX7_init 21 = .ok (.newarray .int, 2) := by decide +kernel
theorem dX7_init_23 : decode cX7_init 23 = .ok (.putfield 18, 3) := by decide +kernel
theorem dX7_init_26 : decode cX7_init 26 = .ok (.aload_n 0, 1) := by decide +kernel
theorem dX7_init_27 : decode cX7_init 27 = .ok (.iconst 0, 1) := by decide +kernel
theorem dX7_init_28 : decode cX7_init 28 = .ok (.putfield 21, 3) := by decide +kernel
theorem dX7_init_31 : decode cX7_init 31 = .ok (.aload_n 0, 1) := by decide +kernel
theorem dX7_init_32 : decode cX7_init 32 = .ok (.iconst 0, 1) := by decide +kernel
theorem dX7_init_33 : decode cX7_init 33 = .ok (.putfield 25, 3) := by decide +kernel
theorem dX7_init_36 : decode cX7_init 36 = .ok (.aload_n 0, 1) := by decide +kernel
theorem dX7_init_37 : decode cX7_init 37 = .ok (.getfield 18, 3) := by decide +kernel
theorem dX7_init_40 : decode cX7_init 40 = .ok (.iconst (-1), 1) := by decide +kernel
theorem dX7_init_41 : decode cX7_init 41 = .ok (.invokestatic 28, 3) := by decide +kernel
theorem dX7_init_44 : decode cX7_init 44 = .ok (.return_, 1) := by decide +kernel
theorem dX7_has_0 : decode cX7_has 0 = .ok (.iload_n 1, 1) := by decide +kernel
theorem dX7_has_1 : decode cX7_has 1 = .ok (.ifCond .lt 15, 3) := by decide +kernel
theorem dX7_has_4 : decode cX7_has 4 = .ok (.iload_n 1, 1) := by decide +kernel
theorem dX7_has_5 : decode cX7_has 5 = .ok (.aload_n 0, 1) := by decide +kernel
theorem dX7_has_6 : decode cX7_has 6 = .ok (.getfield 21, 3) := by decide +kernel
theorem dX7_has_9 : decode cX7_has 9 = .ok (.if_icmp .ge 7, 3) := by decide +kernel
theorem dX7_has_12 : decode cX7_has 12 = .ok (.iconst 1, 1) := by decide +kernel
theorem dX7_has_13 : decode cX7_has 13 = .ok (.goto 4, 3) := by decide +kernel
theorem dX7_has_16 : decode cX7_has 16 = .ok (.iconst 0, 1) := by decide +kernel
theorem dX7_has_17 : decode cX7_has 17 = .ok (.ireturn, 1) := by decide +kernel
theorem dX7_hasAll_0 : decode cX7_hasAll 0 = .ok (.iload_n 2, 1) := by decide +kernel
theorem dX7_hasAll_1 : decode cX7_hasAll 1 = .ok (.istore_n 3, 1) := by decide +kernel
theorem dX7_hasAll_2 : decode cX7_hasAll 2 = .ok (.iconst 0, 1) := by decide +kernel
theorem dX7_hasAll_3 : decode cX7_hasAll 3 = .ok (.istore 4, 2) := by decide +kernel
theorem dX7_hasAll_5 : decode cX7_hasAll 5 = .ok (.iload 4, 2) := by decide +kernel
theorem dX7_hasAll_7 : decode cX7_hasAll 7 = .ok (.iload_n 1, 1) := by decide +kernel
theorem dX7_hasAll_8 : decode cX7_hasAll 8 = .ok (.if_icmp .ge 25, 3) := by decide +kernel
theorem dX7_hasAll_11 : decode cX7_hasAll 11 = .ok (.aload_n 0, 1) := by decide +kernel
theorem dX7_hasAll_12 : decode cX7_hasAll 12 = .ok (.iload_n 3, 1) := by decide +kernel
theorem dX7_hasAll_13 : decode cX7_hasAll 13 = .ok (.iconst 4, 1) := by decide +kernel
theorem dX7_hasAll_14 : decode cX7_hasAll 14 = .ok (.irem, 1) := by decide +kernel
theorem dX7_hasAll_15 : decode cX7_hasAll 15 = .ok (.invokevirtual 34, 3) := by decide +kernel
theorem dX7_hasAll_18 : decode cX7_hasAll 18 = .ok (.ifCond .ne 5, 3) := by decide +kernel
theorem dX7_hasAll_21 : decode cX7_hasAll 21 = .ok (.iconst 0, 1) := by decide +kernel
theorem dX7_hasAll_22 : decode cX7_hasAll 22 = .ok (.ireturn, 1) := by decide +kernel
theorem dX7_hasAll_23 : decode cX7_hasAll 23 = .ok (.iload_n 3, 1) := by decide +kernel
theorem dX7_hasAll_24 : decode cX7_hasAll 24 = .ok (.iconst 4, 1) := by decide +kernel
theorem dX7_hasAll_25 : decode cX7_hasAll 25 = .ok (.idiv, 1) := by decide +kernel
theorem dX7_hasAll_26 : decode cX7_hasAll 26 = .ok (.istore_n 3, 1) := by decide +kernel
theorem dX7_hasAll_27 : decode cX7_hasAll 27 = .ok (.iinc 4 1, 3) := by decide +kernel
theorem dX7_hasAll_30 : decode cX7_hasAll 30 = .ok (.goto (-25), 3) := by decide +kernel
theorem dX7_hasAll_33 : decode cX7_hasAll 33 = .ok (.iconst 1, 1) := by decide +kernel
theorem dX7_hasAll_34 : decode cX7_hasAll 34 = .ok (.ireturn, 1) := by decide +kernel
theorem dX7_total_0 : decode cX7_total 0 = .ok (.aload_n 0, 1) := by decide +kernel
theorem dX7_total_1 : decode cX7_total 1 = .ok (.getfield 9, 3) := by decide +kernel
theorem dX7_total_4 : decode cX7_total 4 = .ok (.iconst 0, 1) := by decide +kernel
theorem dX7_total_5 : decode cX7_total 5 = .ok (.iaload, 1) := by decide +kernel
theorem dX7_total_6 : decode cX7_total 6 = .ok (.aload_n 0, 1) := by decide +kernel
theorem dX7_total_7 : decode cX7_total 7 = .ok (.getfield 9, 3) := by decide +kernel
theorem dX7_total_10 : decode cX7_total 10 = .ok (.iconst 1, 1) := by decide +kernel
theorem dX7_total_11 : decode cX7_total 11 = .ok (.iaload, 1) := by decide +kernel
theorem dX7_total_12 : decode cX7_total 12 = .ok (.iadd, 1) := by decide +kernel
theorem dX7_total_13 : decode cX7_total 13 = .ok (.aload_n 0, 1) := by decide +kernel
theorem dX7_total_14 : decode cX7_total 14 = .ok (.getfield 9, 3) := by decide +kernel
theorem dX7_total_17 : decode cX7_total 17 = .ok (.iconst 2, 1) := by decide +kernel
theorem dX7_total_18 : decode cX7_total 18 = .ok (.iaload, 1) := by decide +kernel
theorem dX7_total_19 : decode cX7_total 19 = .ok (.iadd, 1) := by decide +kernel
theorem dX7_total_20 : decode cX7_total 20 = .ok (.aload_n 0, 1) := by decide +kernel
theorem dX7_total_21 : decode cX7_total 21 = .ok (.getfield 9, 3) := by decide +kernel
theorem dX7_total_24 : decode cX7_total 24 = .ok (.iconst 3, 1) := by decide +kernel
theorem dX7_total_25 : decode cX7_total 25 = .ok (.iaload, 1) := by decide +kernel
theorem dX7_total_26 : decode cX7_total 26 = .ok (.iadd, 1) := by decide +kernel
theorem dX7_total_27 : decode cX7_total 27 = .ok (.ireturn, 1) := by decide +kernel
theorem dX7_growth_0 : decode cX7_growth 0 = .ok (.iconst 0, 1) := by decide +kernel
theorem dX7_growth_1 : decode cX7_growth 1 = .ok (.istore_n 2, 1) := by decide +kernel
theorem dX7_growth_2 : decode cX7_growth 2 = .ok (.iconst 0, 1) := by decide +kernel
theorem dX7_growth_3 : decode cX7_growth 3 = .ok (.istore_n 3, 1) := by decide +kernel
theorem dX7_growth_4 : decode cX7_growth 4 = .ok (.iload_n 3, 1) := by decide +kernel
theorem dX7_growth_5 : decode cX7_growth 5 = .ok (.aload_n 0, 1) := by decide +kernel
theorem dX7_growth_6 : decode cX7_growth 6 = .ok (.getfield 21, 3) := by decide +kernel
theorem dX7_growth_9 : decode cX7_growth 9 = .ok (.if_icmp .ge 22, 3) := by decide +kernel
theorem dX7_growth_12 : decode cX7_growth 12 = .ok (.iload_n 2, 1) := by decide +kernel
theorem dX7_growth_13 : decode cX7_growth 13 = .ok (.aload_n 0, 1) := by decide +kernel
theorem dX7_growth_14 : decode cX7_growth 14 = .ok (.getfield 15, 3) := by decide +kernel
theorem dX7_growth_17 : decode cX7_growth 17 = .ok (.iload_n 1, 1) := by decide +kernel
theorem dX7_growth_18 : decode cX7_growth 18 = .ok (.iconst 4, 1) := by decide +kernel
theorem dX7_growth_19 : decode cX7_growth 19 = .ok (.imul, 1) := by decide +kernel
theorem dX7_growth_20 : decode cX7_growth 20 = .ok (.iload_n 3, 1) := by decide +kernel
theorem dX7_growth_21 : decode cX7_growth 21 = .ok (.iadd, 1) := by decide +kernel
theorem dX7_growth_22 : decode cX7_growth 22 = .ok (.iaload, 1) := by decide +kernel
theorem dX7_growth_23 : decode cX7_growth 23 = .ok (.iadd, 1) := by decide +kernel
theorem dX7_growth_24 : decode cX7_growth 24 = .ok (.istore_n 2, 1) := by decide +kernel
theorem dX7_growth_25 : decode cX7_growth 25 = .ok (.iinc 3 1, 3) := by decide +kernel
theorem dX7_growth_28 : decode cX7_growth 28 = .ok (.goto (-24), 3) := by decide +kernel
theorem dX7_growth_31 : decode cX7_growth 31 = .ok (.iload_n 2, 1) := by decide +kernel
theorem dX7_growth_32 : decode cX7_growth 32 = .ok (.ireturn, 1) := by decide +kernel
theorem dX7_isEven_0 : decode cX7_isEven 0 = .ok (.iconst 1, 1) := by decide +kernel
theorem dX7_isEven_1 : decode cX7_isEven 1 = .ok (.istore_n 1, 1) := by decide +kernel
theorem dX7_isEven_2 : decode cX7_isEven 2 = .ok (.iload_n 1, 1) := by decide +kernel
theorem dX7_isEven_3 : decode cX7_isEven 3 = .ok (.aload_n 0, 1) := by decide +kernel
theorem dX7_isEven_4 : decode cX7_isEven 4 = .ok (.getfield 21, 3) := by decide +kernel
theorem dX7_isEven_7 : decode cX7_isEven 7 = .ok (.if_icmp .ge 24, 3) := by decide +kernel
theorem dX7_isEven_10 : decode cX7_isEven 10 = .ok (.aload_n 0, 1) := by decide +kernel
theorem dX7_isEven_11 : decode cX7_isEven 11 = .ok (.iload_n 1, 1) := by decide +kernel
theorem dX7_isEven_12 : decode cX7_isEven 12 = .ok (.invokevirtual 38, 3) := by decide +kernel
theorem dX7_isEven_15 : decode cX7_isEven 15 = .ok (.aload_n 0, 1) := by decide +kernel
theorem dX7_isEven_16 : decode cX7_isEven 16 = .ok (.iconst 0, 1) := by decide +kernel
theorem dX7_isEven_17 : decode cX7_isEven 17 = .ok (.invokevirtual 38, 3) := by decide +kernel
theorem dX7_isEven_20 : decode cX7_isEven 20 = .ok (.if_icmp .eq 5, 3) := by decide +kernel
theorem dX7_isEven_23 : decode cX7_isEven 23 = .ok (.iconst 0, 1) := by decide +kernel
theorem dX7_isEven_24 : decode cX7_isEven 24 = .ok (.ireturn, 1) := by decide +kernel
theorem dX7_isEven_25 : decode cX7_isEven 25 = .ok (.iinc 1 1, 3) := by decide +kernel
theorem dX7_isEven_28 : decode cX7_isEven 28 = .ok (.goto (-26), 3) := by decide +kernel
theorem dX7_isEven_31 : decode cX7_isEven 31 = .ok (.iconst 1, 1) := by decide +kernel
theorem dX7_isEven_32 : decode cX7_isEven 32 = .ok (.ireturn, 1) := by decide +kernel
theorem dX7_isLike_0 : decode cX7_isLike 0 = .ok (.aload_n 0, 1) := by decide +kernel
theorem dX7_isLike_1 : decode cX7_isLike 1 = .ok (.getfield 15, 3) := by decide +kernel
theorem dX7_isLike_4 : decode cX7_isLike 4 = .ok (.iconst 0, 1) := by decide +kernel
theorem dX7_isLike_5 : decode cX7_isLike 5 = .ok (.iaload, 1) := by decide +kernel
theorem dX7_isLike_6 : decode cX7_isLike 6 = .ok (.istore_n 1, 1) := by decide +kernel
theorem dX7_isLike_7 : decode cX7_isLike 7 = .ok (.iconst 0, 1) := by decide +kernel
theorem dX7_isLike_8 : decode cX7_isLike 8 = .ok (.istore_n 2, 1) := by decide +kernel
theorem dX7_isLike_9 : decode cX7_isLike 9 = .ok (.iload_n 2, 1) := by decide +kernel
theorem dX7_isLike_10 : decode cX7_isLike 10 = .ok (.aload_n 0, 1) := by decide +kernel
theorem dX7_isLike_11 : decode cX7_isLike 11 = .ok (.getfield 21, 3) := by decide +kernel
theorem dX7_isLike_14 : decode cX7_isLike 14 = .ok (.if_icmp .ge 50, 3) := by decide +kernel
theorem dX7_isLike_17 : decode cX7_isLike 17 = .ok (.iconst 0, 1) := by decide +kernel
theorem dX7_isLike_18 : decode cX7_isLike 18 = .ok (.istore_n 3, 1) := by decide +kernel
theorem dX7_isLike_19 : decode cX7_isLike 19 = .ok (.iload_n 3, 1) := by decide +kernel
theorem dX7_isLike_20 : decode cX7_isLike 20 = .ok (.aload_n 0, 1) := by decide +kernel
theorem dX7_isLike_21 : decode cX7_isLike 21 = .ok (.getfield 21, 3) := by decide +kernel
theorem dX7_isLike_24 : decode cX7_isLike 24 = .ok (.if_icmp .ge 34, 3) := by decide +kernel
theorem dX7_isLike_27 : decode cX7_isLike 27 = .ok (.aload_n 0, 1) := by decide +kernel
theorem dX7_isLike_28 : decode cX7_isLike 28 = .ok (.getfield 15, 3) := by decide +kernel
theorem dX7_isLike_31 : decode cX7_isLike 31 = .ok (.iload_n 2, 1) := by decide +kernel
theorem dX7_isLike_32 : decode cX7_isLike 32 = .ok (.iconst 4, 1) := by decide +kernel
theorem dX7_isLike_33 : decode cX7_isLike 33 = .ok (.imul, 1) := by decide +kernel
theorem dX7_isLike_34 : decode cX7_isLike 34 = .ok (.iload_n 3, 1) := by decide +kernel
theorem dX7_isLike_35 : decode cX7_isLike 35 = .ok (.iadd, 1) := by decide +kernel
theorem dX7_isLike_36 : decode cX7_isLike 36 = .ok (.iaload, 1) := by decide +kernel
theorem dX7_isLike_37 : decode cX7_isLike 37 = .ok (.iload_n 2, 1) := by decide +kernel
theorem dX7_isLike_38 : decode cX7_isLike 38 = .ok (.iload_n 3, 1) := by decide +kernel
theorem dX7_isLike_39 : decode cX7_isLike 39 = .ok (.if_icmp .ne 7, 3) := by decide +kernel
theorem dX7_isLike_42 : decode cX7_isLike 42 = .ok (.iload_n 1, 1) := by decide +kernel
theorem dX7_isLike_43 : decode cX7_isLike 43 = .ok (.goto 4, 3) := by decide +kernel
theorem dX7_isLike_46 : decode cX7_isLike 46 = .ok (.iconst 0, 1) := by decide +kernel
theorem dX7_isLike_47 : decode cX7_isLike 47 = .ok (.if_icmp .eq 5, 3) := by decide +kernel
theorem dX7_isLike_50 : decode cX7_isLike 50 = .ok (.iconst 0, 1) := by decide +kernel
theorem dX7_isLike_51 : decode cX7_isLike 51 = .ok (.ireturn, 1) := by decide +kernel
theorem dX7_isLike_52 : decode cX7_isLike 52 = .ok (.iinc 3 1, 3) := by decide +kernel
theorem dX7_isLike_55 : decode cX7_isLike 55 = .ok (.goto (-36), 3) := by decide +kernel
theorem dX7_isLike_58 : decode cX7_isLike 58 = .ok (.iinc 2 1, 3) := by decide +kernel
theorem dX7_isLike_61 : decode cX7_isLike 61 = .ok (.goto (-52), 3) := by decide +kernel
theorem dX7_isLike_64 : decode cX7_isLike 64 = .ok (.iload_n 1, 1) := by decide +kernel
theorem dX7_isLike_65 : decode cX7_isLike 65 = .ok (.ifCond .lt 7, 3) := by decide +kernel
theorem dX7_isLike_68 : decode cX7_isLike 68 = .ok (.iconst 1, 1) := by decide +kernel
theorem dX7_isLike_69 : decode cX7_isLike 69 = .ok (.goto 4, 3) := by decide +kernel
theorem dX7_isLike_72 : decode cX7_isLike 72 = .ok (.iconst 0, 1) := by decide +kernel
theorem dX7_isLike_73 : decode cX7_isLike 73 = .ok (.ireturn, 1) := by decide +kernel
theorem dX7_lets_0 : decode cX7_lets 0 = .ok (.aload_n 1, 1) := by decide +kernel
theorem dX7_lets_1 : decode cX7_lets 1 = .ok (.iload_n 2, 1) := by decide +kernel
theorem dX7_lets_2 : decode cX7_lets 2 = .ok (.iaload, 1) := by decide +kernel
theorem dX7_lets_3 : decode cX7_lets 3 = .ok (.ifCond .gt 5, 3) := by decide +kernel
theorem dX7_lets_6 : decode cX7_lets 6 = .ok (.iconst 0, 1) := by decide +kernel
theorem dX7_lets_7 : decode cX7_lets 7 = .ok (.ireturn, 1) := by decide +kernel
theorem dX7_lets_8 : decode cX7_lets 8 = .ok (.iconst 0, 1) := by decide +kernel
theorem dX7_lets_9 : decode cX7_lets 9 = .ok (.istore_n 3, 1) := by decide +kernel
theorem dX7_lets_10 : decode cX7_lets 10 = .ok (.iload_n 3, 1) := by decide +kernel
theorem dX7_lets_11 : decode cX7_lets 11 = .ok (.aload_n 0, 1) := by decide +kernel
theorem dX7_lets_12 : decode cX7_lets 12 = .ok (.getfield 21, 3) := by decide +kernel
theorem dX7_lets_15 : decode cX7_lets 15 = .ok (.if_icmp .ge 40, 3) := by decide +kernel
theorem dX7_lets_18 : decode cX7_lets 18 = .ok (.aload_n 1, 1) := by decide +kernel
theorem dX7_lets_19 : decode cX7_lets 19 = .ok (.iload_n 3, 1) := by decide +kernel
theorem dX7_lets_20 : decode cX7_lets 20 = .ok (.iaload, 1) := by decide +kernel
theorem dX7_lets_21 : decode cX7_lets 21 = .ok (.aload_n 0, 1) := by decide +kernel
theorem dX7_lets_22 : decode cX7_lets 22 = .ok (.getfield 15, 3) := by decide +kernel
theorem dX7_lets_25 : decode cX7_lets 25 = .ok (.iload_n 2, 1) := by decide +kernel
theorem dX7_lets_26 : decode cX7_lets 26 = .ok (.iconst 4, 1) := by decide +kernel
theorem dX7_lets_27 : decode cX7_lets 27 = .ok (.imul, 1) := by decide +kernel
theorem dX7_lets_28 : decode cX7_lets 28 = .ok (.iload_n 3, 1) := by decide +kernel
theorem dX7_lets_29 : decode cX7_lets 29 = .ok (.iadd, 1) := by decide +kernel
theorem dX7_lets_30 : decode cX7_lets 30 = .ok (.iaload, 1) := by decide +kernel
theorem dX7_lets_31 : decode cX7_lets 31 = .ok (.iadd, 1) := by decide +kernel
theorem dX7_lets_32 : decode cX7_lets 32 = .ok (.istore 4, 2) := by decide +kernel
theorem dX7_lets_34 : decode cX7_lets 34 = .ok (.iload 4, 2) := by decide +kernel
theorem dX7_lets_36 : decode cX7_lets 36 = .ok (.ifCond .lt 11, 3) := by decide +kernel
theorem dX7_lets_39 : decode cX7_lets 39 = .ok (.iload 4, 2) := by decide +kernel
theorem dX7_lets_41 : decode cX7_lets 41 = .ok (.sipush 200, 3) := by decide +kernel
theorem dX7_lets_44 : decode cX7_lets 44 = .ok (.if_icmp .le 5, 3) := by decide +kernel
theorem dX7_lets_47 : decode cX7_lets 47 = .ok (.iconst 0, 1) := by decide +kernel
theorem dX7_lets_48 : decode cX7_lets 48 = .ok (.ireturn, 1) := by decide +kernel
theorem dX7_lets_49 : decode cX7_lets 49 = .ok (.iinc 3 1, 3) := by decide +kernel
theorem dX7_lets_52 : decode cX7_lets 52 = .ok (.goto (-42), 3) := by decide +kernel
theorem dX7_lets_55 : decode cX7_lets 55 = .ok (.iconst 1, 1) := by decide +kernel
theorem dX7_lets_56 : decode cX7_lets 56 = .ok (.ireturn, 1) := by decide +kernel
theorem dX7_grow_0 : decode cX7_grow 0 = .ok (.iconst 0, 1) := by decide +kernel
theorem dX7_grow_1 : decode cX7_grow 1 = .ok (.istore_n 3, 1) := by decide +kernel
theorem dX7_grow_2 : decode cX7_grow 2 = .ok (.iload_n 3, 1) := by decide +kernel
theorem dX7_grow_3 : decode cX7_grow 3 = .ok (.aload_n 0, 1) := by decide +kernel
theorem dX7_grow_4 : decode cX7_grow 4 = .ok (.getfield 21, 3) := by decide +kernel
theorem dX7_grow_7 : decode cX7_grow 7 = .ok (.if_icmp .ge 25, 3) := by decide +kernel
theorem dX7_grow_10 : decode cX7_grow 10 = .ok (.aload_n 1, 1) := by decide +kernel
theorem dX7_grow_11 : decode cX7_grow 11 = .ok (.iload_n 3, 1) := by decide +kernel
theorem dX7_grow_12 : decode cX7_grow 12 = .ok (.dup2, 1) := by decide +kernel
theorem dX7_grow_13 : decode cX7_grow 13 = .ok (.iaload, 1) := by decide +kernel
theorem dX7_grow_14 : decode cX7_grow 14 = .ok (.aload_n 0, 1) := by decide +kernel
theorem dX7_grow_15 : decode cX7_grow 15 = .ok (.getfield 15, 3) := by decide +kernel
theorem dX7_grow_18 : decode cX7_grow 18 = .ok (.iload_n 2, 1) := by decide +kernel
theorem dX7_grow_19 : decode cX7_grow 19 = .ok (.iconst 4, 1) := by decide +kernel
theorem dX7_grow_20 : decode cX7_grow 20 = .ok (.imul, 1) := by decide +kernel
theorem dX7_grow_21 : decode cX7_grow 21 = .ok (.iload_n 3, 1) := by decide +kernel
theorem dX7_grow_22 : decode cX7_grow 22 = .ok (.iadd, 1) := by decide +kernel
theorem dX7_grow_23 : decode cX7_grow 23 = .ok (.iaload, 1) := by decide +kernel
theorem dX7_grow_24 : decode cX7_grow 24 = .ok (.iadd, 1) := by decide +kernel
theorem dX7_grow_25 : decode cX7_grow 25 = .ok (.iastore, 1) := by decide +kernel
theorem dX7_grow_26 : decode cX7_grow 26 = .ok (.iinc 3 1, 3) := by decide +kernel
theorem dX7_grow_29 : decode cX7_grow 29 = .ok (.goto (-27), 3) := by decide +kernel
theorem dX7_grow_32 : decode cX7_grow 32 = .ok (.return_, 1) := by decide +kernel
theorem dX7_doDraw_0 : decode cX7_doDraw 0 = .ok (.aload_n 0, 1) := by decide +kernel
theorem dX7_doDraw_1 : decode cX7_doDraw 1 = .ok (.aload_n 0, 1) := by decide +kernel
theorem dX7_doDraw_2 : decode cX7_doDraw 2 = .ok (.getfield 9, 3) := by decide +kernel
theorem dX7_doDraw_5 : decode cX7_doDraw 5 = .ok (.iload_n 1, 1) := by decide +kernel
theorem dX7_doDraw_6 : decode cX7_doDraw 6 = .ok (.invokevirtual 42, 3) := by decide +kernel
theorem dX7_doDraw_9 : decode cX7_doDraw 9 = .ok (.aload_n 0, 1) := by decide +kernel
theorem dX7_doDraw_10 : decode cX7_doDraw 10 = .ok (.dup, 1) := by decide +kernel
theorem dX7_doDraw_11 : decode cX7_doDraw 11 = .ok (.getfield 25, 3) := by decide +kernel
theorem dX7_doDraw_14 : decode cX7_doDraw 14 = .ok (.iconst 1, 1) := by decide +kernel
theorem dX7_doDraw_15 : decode cX7_doDraw 15 = .ok (.iadd, 1) := by decide +kernel
theorem dX7_doDraw_16 : decode cX7_doDraw 16 = .ok (.putfield 25, 3) := by decide +kernel
theorem dX7_doDraw_19 : decode cX7_doDraw 19 = .ok (.return_, 1) := by decide +kernel
theorem dX7_colourOf_0 : decode cX7_colourOf 0 = .ok (.iconst 0, 1) := by decide +kernel
theorem dX7_colourOf_1 : decode cX7_colourOf 1 = .ok (.istore_n 2, 1) := by decide +kernel
theorem dX7_colourOf_2 : decode cX7_colourOf 2 = .ok (.iconst 0, 1) := by decide +kernel
theorem dX7_colourOf_3 : decode cX7_colourOf 3 = .ok (.istore_n 3, 1) := by decide +kernel
theorem dX7_colourOf_4 : decode cX7_colourOf 4 = .ok (.iload_n 3, 1) := by decide +kernel
theorem dX7_colourOf_5 : decode cX7_colourOf 5 = .ok (.aload_n 0, 1) := by decide +kernel
theorem dX7_colourOf_6 : decode cX7_colourOf 6 = .ok (.getfield 21, 3) := by decide +kernel
theorem dX7_colourOf_9 : decode cX7_colourOf 9 = .ok (.iconst 1, 1) := by decide +kernel
theorem dX7_colourOf_10 : decode cX7_colourOf 10 = .ok (.isub, 1) := by decide +kernel
theorem dX7_colourOf_11 : decode cX7_colourOf 11 = .ok (.if_icmp .ge 25, 3) := by decide +kernel
theorem dX7_colourOf_14 : decode cX7_colourOf 14 = .ok (.iload_n 2, 1) := by decide +kernel
theorem dX7_colourOf_15 : decode cX7_colourOf 15 = .ok (.aload_n 0, 1) := by decide +kernel
theorem dX7_colourOf_16 : decode cX7_colourOf 16 = .ok (.getfield 9, 3) := by decide +kernel
theorem dX7_colourOf_19 : decode cX7_colourOf 19 = .ok (.iload_n 3, 1) := by decide +kernel
theorem dX7_colourOf_20 : decode cX7_colourOf 20 = .ok (.iaload, 1) := by decide +kernel
theorem dX7_colourOf_21 : decode cX7_colourOf 21 = .ok (.iadd, 1) := by decide +kernel
theorem dX7_colourOf_22 : decode cX7_colourOf 22 = .ok (.istore_n 2, 1) := by decide +kernel
theorem dX7_colourOf_23 : decode cX7_colourOf 23 = .ok (.iload_n 1, 1) := by decide +kernel
theorem dX7_colourOf_24 : decode cX7_colourOf 24 = .ok (.iload_n 2, 1) := by decide +kernel
theorem dX7_colourOf_25 : decode cX7_colourOf 25 = .ok (.if_icmp .ge 5, 3) := by decide +kernel
theorem dX7_colourOf_28 : decode cX7_colourOf 28 = .ok (.iload_n 3, 1) := by decide +kernel
theorem dX7_colourOf_29 : decode cX7_colourOf 29 = .ok (.ireturn, 1) := by decide +kernel
theorem dX7_colourOf_30 : decode cX7_colourOf 30 = .ok (.iinc 3 1, 3) := by decide +kernel
theorem dX7_colourOf_33 : decode cX7_colourOf 33 = .ok (.goto (-29), 3) := by decide +kernel
theorem dX7_colourOf_36 : decode cX7_colourOf 36 = .ok (.aload_n 0, 1) := by decide +kernel
theorem dX7_colourOf_37 : decode cX7_colourOf 37 = .ok (.getfield 21, 3) := by decide +kernel
theorem dX7_colourOf_40 : decode cX7_colourOf 40 = .ok (.iconst 1, 1) := by decide +kernel
theorem dX7_colourOf_41 : decode cX7_colourOf 41 = .ok (.isub, 1) := by decide +kernel
theorem dX7_colourOf_42 : decode cX7_colourOf 42 = .ok (.ireturn, 1) := by decide +kernel
theorem dX7_goInto_0 : decode cX7_goInto 0 = .ok (.aload_n 0, 1) := by decide +kernel
theorem dX7_goInto_1 : decode cX7_goInto 1 = .ok (.getfield 9, 3) := by decide +kernel
theorem dX7_goInto_4 : decode cX7_goInto 4 = .ok (.iconst 0, 1) := by decide +kernel
theorem dX7_goInto_5 : decode cX7_goInto 5 = .ok (.aload_n 1, 1) := by decide +kernel
theorem dX7_goInto_6 : decode cX7_goInto 6 = .ok (.iload_n 2, 1) := by decide +kernel
theorem dX7_goInto_7 : decode cX7_goInto 7 = .ok (.iconst 4, 1) := by decide +kernel
theorem dX7_goInto_8 : decode cX7_goInto 8 = .ok (.invokestatic 45, 3) := by decide +kernel
theorem dX7_goInto_11 : decode cX7_goInto 11 = .ok (.aload_n 0, 1) := by decide +kernel
theorem dX7_goInto_12 : decode cX7_goInto 12 = .ok (.getfield 15, 3) := by decide +kernel
theorem dX7_goInto_15 : decode cX7_goInto 15 = .ok (.iconst 0, 1) := by decide +kernel
theorem dX7_goInto_16 : decode cX7_goInto 16 = .ok (.aload_n 1, 1) := by decide +kernel
theorem dX7_goInto_17 : decode cX7_goInto 17 = .ok (.iload_n 2, 1) := by decide +kernel
theorem dX7_goInto_18 : decode cX7_goInto 18 = .ok (.iconst 4, 1) := by decide +kernel
theorem dX7_goInto_19 : decode cX7_goInto 19 = .ok (.iadd, 1) := by decide +kernel
theorem dX7_goInto_20 : decode cX7_goInto 20 = .ok (.bipush 16, 2) := by decide +kernel
theorem dX7_goInto_22 : decode cX7_goInto 22 = .ok (.invokestatic 45, 3) := by decide +kernel
theorem dX7_goInto_25 : decode cX7_goInto 25 = .ok (.aload_n 0, 1) := by decide +kernel
theorem dX7_goInto_26 : decode cX7_goInto 26 = .ok (.getfield 18, 3) := by decide +kernel
theorem dX7_goInto_29 : decode cX7_goInto 29 = .ok (.iconst 0, 1) := by decide +kernel
theorem dX7_goInto_30 : decode cX7_goInto 30 = .ok (.aload_n 1, 1) := by decide +kernel
theorem dX7_goInto_31 : decode cX7_goInto 31 = .ok (.iload_n 2, 1) := by decide +kernel
theorem dX7_goInto_32 : decode cX7_goInto 32 = .ok (.iconst 4, 1) := by decide +kernel
theorem dX7_goInto_33 : decode cX7_goInto 33 = .ok (.iadd, 1) := by decide +kernel
theorem dX7_goInto_34 : decode cX7_goInto 34 = .ok (.bipush 16, 2) := by decide +kernel
theorem dX7_goInto_36 : decode cX7_goInto 36 = .ok (.iadd, 1) := by decide +kernel
theorem dX7_goInto_37 : decode cX7_goInto 37 = .ok (.iconst 4, 1) := by decide +kernel
theorem dX7_goInto_38 : decode cX7_goInto 38 = .ok (.invokestatic 45, 3) := by decide +kernel
theorem dX7_goInto_41 : decode cX7_goInto 41 = .ok (.aload_n 1, 1) := by decide +kernel
theorem dX7_goInto_42 : decode cX7_goInto 42 = .ok (.iload_n 2, 1) := by decide +kernel
theorem dX7_goInto_43 : decode cX7_goInto 43 = .ok (.bipush 25, 2) := by decide +kernel
theorem dX7_goInto_45 : decode cX7_goInto 45 = .ok (.iadd, 1) := by decide +kernel
theorem dX7_goInto_46 : decode cX7_goInto 46 = .ok (.iconst 1, 1) := by decide +kernel
theorem dX7_goInto_47 : decode cX7_goInto 47 = .ok (.isub, 1) := by decide +kernel
theorem dX7_goInto_48 : decode cX7_goInto 48 = .ok (.aload_n 0, 1) := by decide +kernel
theorem dX7_goInto_49 : decode cX7_goInto 49 = .ok (.getfield 25, 3) := by decide +kernel
theorem dX7_goInto_52 : decode cX7_goInto 52 = .ok (.iastore, 1) := by decide +kernel
theorem dX7_goInto_53 : decode cX7_goInto 53 = .ok (.return_, 1) := by decide +kernel
theorem dX7_comeFrom_0 : decode cX7_comeFrom 0 = .ok (.aload_n 1, 1) := by decide +kernel
theorem dX7_comeFrom_1 : decode cX7_comeFrom 1 = .ok (.iload_n 2, 1) := by decide +kernel
theorem dX7_comeFrom_2 : decode cX7_comeFrom 2 = .ok (.aload_n 0, 1) := by decide +kernel
theorem dX7_comeFrom_3 : decode cX7_comeFrom 3 = .ok (.getfield 9, 3) := by decide +kernel
theorem dX7_comeFrom_6 : decode cX7_comeFrom 6 = .ok (.iconst 0, 1) := by decide +kernel
theorem dX7_comeFrom_7 : decode cX7_comeFrom 7 = .ok (.iconst 4, 1) := by decide +kernel
theorem dX7_comeFrom_8 : decode cX7_comeFrom 8 = .ok (.invokestatic 45, 3) := by decide +kernel
theorem dX7_comeFrom_11 : decode cX7_comeFrom 11 = .ok (.aload_n 1, 1) := by decide +kernel
theorem dX7_comeFrom_12 : decode cX7_comeFrom 12 = .ok (.iload_n 2, 1) := by decide +kernel
theorem dX7_comeFrom_13 : decode cX7_comeFrom 13 = .ok (.iconst 4, 1) := by decide +kernel
theorem dX7_comeFrom_14 : decode cX7_comeFrom 14 = .ok (.iadd, 1) := by decide +kernel
theorem dX7_comeFrom_15 : decode cX7_comeFrom 15 = .ok (.aload_n 0, 1) := by decide +kernel
theorem dX7_comeFrom_16 : decode cX7_comeFrom 16 = .ok (.getfield 15, 3) := by decide +kernel
theorem dX7_comeFrom_19 : decode cX7_comeFrom 19 = .ok (.iconst 0, 1) := by decide +kernel
theorem dX7_comeFrom_20 : decode cX7_comeFrom 20 = .ok (.bipush 16, 2) := by decide +kernel
theorem dX7_comeFrom_22 : decode cX7_comeFrom 22 = .ok (.invokestatic 45, 3) := by decide +kernel
theorem dX7_comeFrom_25 : decode cX7_comeFrom 25 = .ok (.aload_n 1, 1) := by decide +kernel
theorem dX7_comeFrom_26 : decode cX7_comeFrom 26 = .ok (.iload_n 2, 1) := by decide +kernel
theorem dX7_comeFrom_27 : decode cX7_comeFrom 27 = .ok (.iconst 4, 1) := by decide +kernel
theorem dX7_comeFrom_28 : decode cX7_comeFrom 28 = .ok (.iadd, 1) := by decide +kernel
theorem dX7_comeFrom_29 : decode cX7_comeFrom 29 = .ok (.bipush 16, 2) := by decide +kernel
theorem dX7_comeFrom_31 : decode cX7_comeFrom 31 = .ok (.iadd, 1) := by decide +kernel
theorem dX7_comeFrom_32 : decode cX7_comeFrom 32 = .ok (.aload_n 0, 1) := by decide +kernel
theorem dX7_comeFrom_33 : decode cX7_comeFrom 33 = .ok (.getfield 18, 3) := by decide +kernel
theorem dX7_comeFrom_36 : decode cX7_comeFrom 36 = .ok (.iconst 0, 1) := by decide +kernel
theorem dX7_comeFrom_37 : decode cX7_comeFrom 37 = .ok (.iconst 4, 1) := by decide +kernel
theorem dX7_comeFrom_38 : decode cX7_comeFrom 38 = .ok (.invokestatic 45, 3) := by decide +kernel
theorem dX7_comeFrom_41 : decode cX7_comeFrom 41 = .ok (.aload_n 0, 1) := by decide +kernel
theorem dX7_comeFrom_42 : decode cX7_comeFrom 42 = .ok (.aload_n 1, 1) := by decide +kernel
theorem dX7_comeFrom_43 : decode cX7_comeFrom 43 = .ok (.iload_n 2, 1) := by decide +kernel
theorem dX7_comeFrom_44 : decode cX7_comeFrom 44 = .ok (.bipush 25, 2) := by decide +kernel
theorem dX7_comeFrom_46 : decode cX7_comeFrom 46 = .ok (.iadd, 1) := by decide +kernel
theorem dX7_comeFrom_47 : decode cX7_comeFrom 47 = .ok (.iconst 1, 1) := by decide +kernel
theorem dX7_comeFrom_48 : decode cX7_comeFrom 48 = .ok (.isub, 1) := by decide +kernel
theorem dX7_comeFrom_49 : decode cX7_comeFrom 49 = .ok (.iaload, 1) := by decide +kernel
theorem dX7_comeFrom_50 : decode cX7_comeFrom 50 = .ok (.putfield 25, 3) := by decide +kernel
theorem dX7_comeFrom_53 : decode cX7_comeFrom 53 = .ok (.return_, 1) := by decide +kernel
theorem dX8_init_0 : decode cX8_init 0 = .ok (.aload_n 0, 1) := by decide +kernel
theorem dX8_init_1 : decode cX8_init 1 = .ok (.invokespecial 3, 3) := by decide +kernel
theorem dX8_init_4 : decode cX8_init 4 = .ok (.aload_n 0, 1) := by decide +kernel
theorem dX8_init_5 : decode cX8_init 5 = .ok (.bipush 6, 2) := by decide +kernel
theorem dX8_init_7 : decode cX8_init 7 = .ok (.anewarray 9, 3) := by decide +kernel
theorem dX8_init_10 : decode cX8_init 10 = .ok (.putfield 11, 3) := by decide +kernel
theorem dX8_init_13 : decode cX8_init 13 = .ok (.aload_n 0, 1) := by decide +kernel
theorem dX8_init_14 : decode cX8_init 14 = .ok (.bipush 8, 2) := by decide +kernel
theorem dX8_init_16 : decode cX8_init 16 = .ok (.anewarray 15, 3) := by decide +kernel
theorem dX8_init_19 : decode cX8_init 19 = .ok (.putfield 17, 3) := by decide +kernel
theorem dX8_init_22 : decode cX8_init 22 = .ok (.aload_n 0, 1) := by decide +kernel
theorem dX8_init_23 : decode cX8_init 23 = .ok (.new 21, 3) := by decide +kernel
theorem dX8_init_26 : decode cX8_init 26 = .ok (.dup, 1) := by decide +kernel
theorem dX8_init_27 : decode cX8_init 27 = .ok (.invokespecial 23, 3) := by decide +kernel
theorem dX8_init_30 : decode cX8_init 30 = .ok (.putfield 24, 3) := by decide +kernel
theorem dX8_init_33 : decode cX8_init 33 = .ok (.aload_n 0, 1) := by decide +kernel
theorem dX8_init_34 : decode cX8_init 34 = .ok (.new 28, 3) := by decide +kernel
theorem dX8_init_37 : decode cX8_init 37 = .ok (.dup, 1) := by decide +kernel
theorem dX8_init_38 : decode cX8_init 38 = .ok (.invokespecial 30, 3) := by decide +kernel
theorem dX8_init_41 : decode cX8_init 41 = .ok (.putfield 31, 3) := by decide +kernel
theorem dX8_init_44 : decode cX8_init 44 = .ok (.aload_n 0, 1) := by decide +kernel
theorem dX8_init_45 : decode cX8_init 45 = .ok (.new 35, 3) := by decide +kernel
theorem dX8_init_48 : decode cX8_init 48 = .ok (.dup, 1) := by decide +kernel
theorem dX8_init_49 : decode cX8_init 49 = .ok (.invokespecial 37, 3) := by decide +kernel
theorem dX8_init_52 : decode cX8_init 52 = .ok (.putfield 38, 3) := by decide +kernel
theorem dX8_init_55 : decode cX8_init 55 = .ok (.aload_n 0, 1) := by decide +kernel
theorem dX8_init_56 : decode cX8_init 56 = .ok (.new 42, 3) := by decide +kernel
theorem dX8_init_59 : decode cX8_init 59 = .ok (.dup, 1) := by decide +kernel
theorem dX8_init_60 : decode cX8_init 60 = .ok (.invokespecial 44, 3) := by decide +kernel
theorem dX8_init_63 : decode cX8_init 63 = .ok (.putfield 45, 3) := by decide +kernel
theorem dX8_init_66 : decode cX8_init 66 = .ok (.aload_n 0, 1) := by decide +kernel
theorem dX8_init_67 : decode cX8_init 67 = .ok (.new 49, 3) := by decide +kernel
theorem dX8_init_70 : decode cX8_init 70 = .ok (.dup, 1) := by decide +kernel
theorem dX8_init_71 : decode cX8_init 71 = .ok (.invokespecial 51, 3) := by decide +kernel
theorem dX8_init_74 : decode cX8_init 74 = .ok (.putfield 52, 3) := by decide +kernel
theorem dX8_init_77 : decode cX8_init 77 = .ok (.aload_n 0, 1) := by decide +kernel
theorem dX8_init_78 : decode cX8_init 78 = .ok (.new 56, 3) := by decide +kernel
theorem dX8_init_81 : decode cX8_init 81 = .ok (.dup, 1) := by decide +kernel
theorem dX8_init_82 : decode cX8_init 82 = .ok (.invokespecial 58, 3) := by decide +kernel
theorem dX8_init_85 : decode cX8_init 85 = .ok (.putfield 59, 3) := by decide +kernel
theorem dX8_init_88 : decode cX8_init 88 = .ok (.aload_n 0, 1) := by decide +kernel
theorem dX8_init_89 : decode cX8_init 89 = .ok (.iconst 0, 1) := by decide +kernel
theorem dX8_init_90 : decode cX8_init 90 = .ok (.putfield 63, 3) := by decide +kernel
theorem dX8_init_93 : decode cX8_init 93 = .ok (.aload_n 0, 1) := by decide +kernel
theorem dX8_init_94 : decode cX8_init 94 = .ok (.iconst 1, 1) := by decide +kernel
theorem dX8_init_95 : decode cX8_init 95 = .ok (.putfield 67, 3) := by decide +kernel
theorem dX8_init_98 : decode cX8_init 98 = .ok (.iconst 0, 1) := by decide +kernel
theorem dX8_init_99 : decode cX8_init 99 = .ok (.istore_n 1, 1) := by decide +kernel
theorem dX8_init_100 : decode cX8_init 100 = .ok (.iload_n 1, 1) := by decide +kernel
theorem dX8_init_101 : decode cX8_init 101 = .ok (.bipush 6, 2) := by decide +kernel
theorem dX8_init_103 : decode cX8_init 103 = .ok (.if_icmp .ge 22, 3) := by decide +kernel
theorem dX8_init_106 : decode cX8_init 106 = .ok (.aload_n 0, 1) := by decide +kernel
theorem dX8_init_107 : decode cX8_init 107 = .ok (.getfield 11, 3) := by decide +kernel
theorem dX8_init_110 : decode cX8_init 110 = .ok (.iload_n 1, 1) := by decide +kernel
theorem dX8_init_111 : decode cX8_init 111 = .ok (.new 9, 3) := by decide +kernel
theorem dX8_init_114 : decode cX8_init 114 = .ok (.dup, 1) := by decide +kernel
theorem dX8_init_115 : decode cX8_init 115 = .ok (.invokespecial 70, 3) := by decide +kernel
theorem dX8_init_118 : decode cX8_init 118 = .ok (.aastore, 1) := by decide +kernel
theorem dX8_init_119 : decode cX8_init 119 = .ok (.iinc 1 1, 3) := by decide +kernel
theorem dX8_init_122 : decode cX8_init 122 = .ok (.goto (-22), 3) := by decide +kernel
theorem dX8_init_125 : decode cX8_init 125 = .ok (.iconst 0, 1) := by decide +kernel
theorem dX8_init_126 : decode cX8_init 126 = .ok (.istore_n 1, 1) := by decide +kernel
theorem dX8_init_127 : decode cX8_init 127 = .ok (.iload_n 1, 1) := by decide +kernel
theorem dX8_init_128 : decode cX8_init 128 = .ok (.bipush 8, 2) := by decide +kernel
theorem dX8_init_130 : decode cX8_init 130 = .ok (.if_icmp .ge 22, 3) := by decide +kernel
theorem dX8_init_133 : decode cX8_init 133 = .ok (.aload_n 0, 1) := by decide +kernel
theorem dX8_init_134 : decode cX8_init 134 = .ok (.getfield 17, 3) := by decide +kernel
theorem dX8_init_137 : decode cX8_init 137 = .ok (.iload_n 1, 1) := by decide +kernel
theorem dX8_init_138 : decode cX8_init 138 = .ok (.new 15, 3) := by decide +kernel
theorem dX8_init_141 : decode cX8_init 141 = .ok (.dup, 1) := by decide +kernel
theorem dX8_init_142 : decode cX8_init 142 = .ok (.invokespecial 71, 3) := by decide +kernel
theorem dX8_init_145 : decode cX8_init 145 = .ok (.aastore, 1) := by decide +kernel
theorem dX8_init_146 : decode cX8_init 146 = .ok (.iinc 1 1, 3) := by decide +kernel
theorem dX8_init_149 : decode cX8_init 149 = .ok (.goto (-22), 3) := by decide +kernel
theorem dX8_init_152 : decode cX8_init 152 = .ok (.return_, 1) := by decide +kernel
theorem dX8_sheet_0 : decode cX8_sheet 0 = .ok (.aload_n 0, 1) := by decide +kernel
theorem dX8_sheet_1 : decode cX8_sheet 1 = .ok (.iload_n 1, 1) := by decide +kernel
theorem dX8_sheet_2 : decode cX8_sheet 2 = .ok (.invokevirtual 72, 3) := by decide +kernel
theorem dX8_sheet_5 : decode cX8_sheet 5 = .ok (.astore 4, 2) := by decide +kernel
theorem dX8_sheet_7 : decode cX8_sheet 7 = .ok (.aload 4, 2) := by decide +kernel
theorem dX8_sheet_9 : decode cX8_sheet 9 = .ok (.ifnull 13, 3) := by decide +kernel
theorem dX8_sheet_12 : decode cX8_sheet 12 = .ok (.iload_n 2, 1) := by decide +kernel
theorem dX8_sheet_13 : decode cX8_sheet 13 = .ok (.iconst (-1), 1) := by decide +kernel
theorem dX8_sheet_14 : decode cX8_sheet 14 = .ok (.if_icmp .lt 8, 3) := by decide +kernel
theorem dX8_sheet_17 : decode cX8_sheet 17 = .ok (.iload_n 2, 1) := by decide +kernel
theorem dX8_sheet_18 : decode cX8_sheet 18 = .ok (.iconst 2, 1) := by decide +kernel
theorem dX8_sheet_19 : decode cX8_sheet 19 = .ok (.if_icmp .le 5, 3) := by decide +kernel
theorem dX8_sheet_22 : decode cX8_sheet 22 = .ok (.iconst (-1), 1) := by decide +kernel
theorem dX8_sheet_23 : decode cX8_sheet 23 = .ok (.ireturn, 1) := by decide +kernel
theorem dX8_sheet_24 : decode cX8_sheet 24 = .ok (.iload_n 2, 1) := by decide +kernel
theorem dX8_sheet_25 : decode cX8_sheet 25 = .ok (.iconst (-1), 1) := by decide +kernel
theorem dX8_sheet_26 : decode cX8_sheet 26 = .ok (.if_icmp .ne 12, 3) := by decide +kernel
theorem dX8_sheet_29 : decode cX8_sheet 29 = .ok (.aload 4, 2) := by decide +kernel
theorem dX8_sheet_31 : decode cX8_sheet 31 = .ok (.iconst (-1), 1) := by decide +kernel
theorem dX8_sheet_32 : decode cX8_sheet 32 = .ok (.iconst 0, 1) := by decide +kernel
theorem dX8_sheet_33 : decode cX8_sheet 33 = .ok (.invokevirtual 76, 3) := by decide +kernel
theorem dX8_sheet_36 : decode cX8_sheet 36 = .ok (.iconst 0, 1) := by decide +kernel
theorem dX8_sheet_37 : decode cX8_sheet 37 = .ok (.ireturn, 1) := by decide +kernel
theorem dX8_sheet_38 : decode cX8_sheet 38 = .ok (.iload_n 3, 1) := by decide +kernel
theorem dX8_sheet_39 : decode cX8_sheet 39 = .ok (.bipush 16, 2) := by decide +kernel
theorem dX8_sheet_41 : decode cX8_sheet 41 = .ok (.if_icmp .le 5, 3) := by decide +kernel
theorem dX8_sheet_44 : decode cX8_sheet 44 = .ok (.iconst (-1), 1) := by decide +kernel
theorem dX8_sheet_45 : decode cX8_sheet 45 = .ok (.ireturn, 1) := by decide +kernel
theorem dX8_sheet_46 : decode cX8_sheet 46 = .ok (.iload_n 3, 1) := by decide +kernel
theorem dX8_sheet_47 : decode cX8_sheet 47 = .ok (.ifCond .ge 6, 3) := by decide +kernel
theorem dX8_sheet_50 : decode cX8_sheet 50 = .ok (.bipush (-13), 2) := by decide +kernel
theorem dX8_sheet_52 : decode cX8_sheet 52 = .ok (.ireturn, 1) := by decide +kernel
theorem dX8_sheet_53 : decode cX8_sheet 53 = .ok (.aload 4, 2) := by decide +kernel
theorem dX8_sheet_55 : decode cX8_sheet 55 = .ok (.iload_n 2, 1) := by decide +kernel
theorem dX8_sheet_56 : decode cX8_sheet 56 = .ok (.iload_n 3, 1) := by decide +kernel
theorem dX8_sheet_57 : decode cX8_sheet 57 = .ok (.invokevirtual 76, 3) := by decide +kernel
theorem dX8_sheet_60 : decode cX8_sheet 60 = .ok (.iconst 0, 1) := by decide +kernel
theorem dX8_sheet_61 : decode cX8_sheet 61 = .ok (.ireturn, 1) := by decide +kernel
theorem dX8_lay_0 : decode cX8_lay 0 = .ok (.aload_n 0, 1) := by decide +kernel
theorem dX8_lay_1 : decode cX8_lay 1 = .ok (.iload_n 1, 1) := by decide +kernel
theorem dX8_lay_2 : decode cX8_lay 2 = .ok (.invokevirtual 72, 3) := by decide +kernel
theorem dX8_lay_5 : decode cX8_lay 5 = .ok (.astore 5, 2) := by decide +kernel
theorem dX8_lay_7 : decode cX8_lay 7 = .ok (.aload 5, 2) := by decide +kernel
theorem dX8_lay_9 : decode cX8_lay 9 = .ok (.ifnonnull 5, 3) := by decide +kernel
theorem dX8_lay_12 : decode cX8_lay 12 = .ok (.iconst (-1), 1) := by decide +kernel
theorem dX8_lay_13 : decode cX8_lay 13 = .ok (.ireturn, 1) := by decide +kernel
theorem dX8_lay_14 : decode cX8_lay 14 = .ok (.aload 5, 2) := by decide +kernel
theorem dX8_lay_16 : decode cX8_lay 16 = .ok (.getfield 80, 3) := by decide +kernel
theorem dX8_lay_19 : decode cX8_lay 19 = .ok (.iconst (-1), 1) := by decide +kernel
theorem dX8_lay_20 : decode cX8_lay 20 = .ok (.if_icmp .ne 6, 3) := by decide +kernel
theorem dX8_lay_23 : decode cX8_lay 23 = .ok (.bipush (-11), 2) := by decide +kernel
theorem dX8_lay_25 : decode cX8_lay 25 = .ok (.ireturn, 1) := by decide +kernel
theorem dX8_lay_26 : decode cX8_lay 26 = .ok (.aload 5, 2) := by decide +kernel
theorem dX8_lay_28 : decode cX8_lay 28 = .ok (.iload_n 2, 1) := by decide +kernel
theorem dX8_lay_29 : decode cX8_lay 29 = .ok (.iconst 1, 1) := by decide +kernel
theorem dX8_lay_30 : decode cX8_lay 30 = .ok (.invokevirtual 83, 3) := by decide +kernel
theorem dX8_lay_33 : decode cX8_lay 33 = .ok (.ifCond .ne 6, 3) := by decide +kernel
theorem dX8_lay_36 : decode cX8_lay 36 = .ok (.bipush (-12), 2) := by decide +kernel
theorem dX8_lay_38 : decode cX8_lay 38 = .ok (.ireturn, 1) := by decide +kernel
theorem dX8_lay_39 : decode cX8_lay 39 = .ok (.aload 5, 2) := by decide +kernel
theorem dX8_lay_41 : decode cX8_lay 41 = .ok (.getfield 87, 3) := by decide +kernel
theorem dX8_lay_44 : decode cX8_lay 44 = .ok (.iload_n 2, 1) := by decide +kernel
theorem dX8_lay_45 : decode cX8_lay 45 = .ok (.aload 5, 2) := by decide +kernel
theorem dX8_lay_47 : decode cX8_lay 47 = .ok (.lload_n 3, 1) := by decide +kernel
theorem dX8_lay_48 : decode cX8_lay 48 = .ok (.invokevirtual 91, 3) := by decide +kernel
theorem dX8_lay_51 : decode cX8_lay 51 = .ok (.lastore, 1) := by decide +kernel
theorem dX8_lay_52 : decode cX8_lay 52 = .ok (.iconst 0, 1) := by decide +kernel
theorem dX8_lay_53 : decode cX8_lay 53 = .ok (.ireturn, 1) := by decide +kernel
theorem dX8_copy_0 : decode cX8_copy 0 = .ok (.aload_n 0, 1) := by decide +kernel
theorem dX8_copy_1 : decode cX8_copy 1 = .ok (.iload_n 1, 1) := by decide +kernel
theorem dX8_copy_2 : decode cX8_copy 2 = .ok (.invokevirtual 72, 3) := by decide +kernel
theorem dX8_copy_5 : decode cX8_copy 5 = .ok (.astore 6, 2) := by decide +kernel
theorem dX8_copy_7 : decode cX8_copy 7 = .ok (.aload_n 0, 1) := by decide +kernel
theorem dX8_copy_8 : decode cX8_copy 8 = .ok (.iload_n 3, 1) := by decide +kernel
theorem dX8_copy_9 : decode cX8_copy 9 = .ok (.invokevirtual 72, 3) := by decide +kernel
theorem dX8_copy_12 : decode cX8_copy 12 = .ok (.astore 7, 2) := by decide +kernel
theorem dX8_copy_14 : decode cX8_copy 14 = .ok (.aload 6, 2) := by decide +kernel
theorem dX8_copy_16 : decode cX8_copy 16 = .ok (.ifnull 8, 3) := by decide +kernel
theorem dX8_copy_19 : decode cX8_copy 19 = .ok (.aload 7, 2) := by decide +kernel
theorem dX8_copy_21 : decode cX8_copy 21 = .ok (.ifnonnull 5, 3) := by decide +kernel
theorem dX8_copy_24 : decode cX8_copy 24 = .ok (.iconst (-1), 1) := by decide +kernel
theorem dX8_copy_25 : decode cX8_copy 25 = .ok (.ireturn, 1) := by decide +kernel
theorem dX8_copy_26 : decode cX8_copy 26 = .ok (.aload 6, 2) := by decide +kernel
theorem dX8_copy_28 : decode cX8_copy 28 = .ok (.getfield 80, 3) := by decide +kernel
theorem dX8_copy_31 : decode cX8_copy 31 = .ok (.iconst (-1), 1) := by decide +kernel
theorem dX8_copy_32 : decode cX8_copy 32 = .ok (.if_icmp .eq 12, 3) := by decide +kernel
theorem dX8_copy_35 : decode cX8_copy 35 = .ok (.aload 7, 2) := by decide +kernel
theorem dX8_copy_37 : decode cX8_copy 37 = .ok (.getfield 80, 3) := by decide +kernel
theorem dX8_copy_40 : decode cX8_copy 40 = .ok (.iconst (-1), 1) := by decide +kernel
theorem dX8_copy_41 : decode cX8_copy 41 = .ok (.if_icmp .ne 6, 3) := by decide +kernel
theorem dX8_copy_44 : decode cX8_copy 44 = .ok (.bipush (-11), 2) := by decide +kernel
theorem dX8_copy_46 : decode cX8_copy 46 = .ok (.ireturn, 1) := by decide +kernel
theorem dX8_copy_47 : decode cX8_copy 47 = .ok (.aload 6, 2) := by decide +kernel
theorem dX8_copy_49 : decode cX8_copy 49 = .ok (.getfield 80, 3) := by decide +kernel
theorem dX8_copy_52 : decode cX8_copy 52 = .ok (.aload 7, 2) := by decide +kernel
theorem dX8_copy_54 : decode cX8_copy 54 = .ok (.getfield 80, 3) := by decide +kernel
theorem dX8_copy_57 : decode cX8_copy 57 = .ok (.if_icmp .eq 6, 3) := by decide +kernel
theorem dX8_copy_60 : decode cX8_copy 60 = .ok (.bipush (-14), 2) := by decide +kernel
theorem dX8_copy_62 : decode cX8_copy 62 = .ok (.ireturn, 1) := by decide +kernel
theorem dX8_copy_63 : decode cX8_copy 63 = .ok (.aload 6, 2) := by decide +kernel
theorem dX8_copy_65 : decode cX8_copy 65 = .ok (.iload_n 2, 1) := by decide +kernel
theorem dX8_copy_66 : decode cX8_copy 66 = .ok (.iload 5, 2) := by decide +kernel
theorem dX8_copy_68 : decode cX8_copy 68 = .ok (.invokevirtual 83, 3) := by decide +kernel
theorem dX8_copy_71 : decode cX8_copy 71 = .ok (.ifCond .eq 15, 3) := by decide +kernel
theorem dX8_copy_74 : decode cX8_copy 74 = .ok (.aload 7, 2) := by decide +kernel
theorem dX8_copy_76 : decode cX8_copy 76 = .ok (.iload 4, 2) := by decide +kernel
theorem dX8_copy_78 : decode cX8_copy 78 = .ok (.iload 5, 2) := by decide +kernel
theorem dX8_copy_80 : decode cX8_copy 80 = .ok (.invokevirtual 83, 3) := by decide +kernel
theorem dX8_copy_83 : decode cX8_copy 83 = .ok (.ifCond .ne 6, 3) := by decide +kernel
theorem dX8_copy_86 : decode cX8_copy 86 = .ok (.bipush (-12), 2) := by decide +kernel
theorem dX8_copy_88 : decode cX8_copy 88 = .ok (.ireturn, 1) := by decide +kernel
theorem dX8_copy_89 : decode cX8_copy 89 = .ok (.aload 6, 2) := by decide +kernel
theorem dX8_copy_91 : decode cX8_copy 91 = .ok (.getfield 87, 3) := by decide +kernel
theorem dX8_copy_94 : decode cX8_copy 94 = .ok (.iload_n 2, 1) := by decide +kernel
theorem dX8_copy_95 : decode cX8_copy 95 = .ok (.aload 7, 2) := by decide +kernel
theorem dX8_copy_97 : decode cX8_copy 97 = .ok (.getfield 87, 3) := by decide +kernel
theorem dX8_copy_100 : decode cX8_copy 100 = .ok (.iload 4, 2) := by decide +kernel
theorem dX8_copy_102 : decode cX8_copy 102 = .ok (.iload 5, 2) := by decide +kernel
theorem dX8_copy_104 : decode cX8_copy 104 = .ok (.invokestatic 95, 3) := by decide +kernel
theorem dX8_copy_107 : decode cX8_copy 107 = .ok (.iconst 0, 1) := by decide +kernel
theorem dX8_copy_108 : decode cX8_copy 108 = .ok (.ireturn, 1) := by decide +kernel
theorem dX8_holds_0 : decode cX8_holds 0 = .ok (.aload_n 0, 1) := by decide +kernel
theorem dX8_holds_1 : decode cX8_holds 1 = .ok (.iload_n 1, 1) := by decide +kernel
theorem dX8_holds_2 : decode cX8_holds 2 = .ok (.invokevirtual 72, 3) := by decide +kernel
theorem dX8_holds_5 : decode cX8_holds 5 = .ok (.astore 5, 2) := by decide +kernel
theorem dX8_holds_7 : decode cX8_holds 7 = .ok (.aload 5, 2) := by decide +kernel
theorem dX8_holds_9 : decode cX8_holds 9 = .ok (.ifnonnull 5, 3) := by decide +kernel
theorem dX8_holds_12 : decode cX8_holds 12 = .ok (.iconst (-1), 1) := by decide +kernel
theorem dX8_holds_13 : decode cX8_holds 13 = .ok (.ireturn, 1) := by decide +kernel
theorem dX8_holds_14 : decode cX8_holds 14 = .ok (.aload 5, 2) := by decide +kernel
theorem dX8_holds_16 : decode cX8_holds 16 = .ok (.getfield 80, 3) := by decide +kernel
theorem dX8_holds_19 : decode cX8_holds 19 = .ok (.iconst (-1), 1) := by decide +kernel
theorem dX8_holds_20 : decode cX8_holds 20 = .ok (.if_icmp .ne 6, 3) := by decide +kernel
theorem dX8_holds_23 : decode cX8_holds 23 = .ok (.bipush (-11), 2) := by decide +kernel
theorem dX8_holds_25 : decode cX8_holds 25 = .ok (.ireturn, 1) := by decide +kernel
theorem dX8_holds_26 : decode cX8_holds 26 = .ok (.aload 5, 2) := by decide +kernel
theorem dX8_holds_28 : decode cX8_holds 28 = .ok (.iload_n 2, 1) := by decide +kernel
theorem dX8_holds_29 : decode cX8_holds 29 = .ok (.iconst 1, 1) := by decide +kernel
theorem dX8_holds_30 : decode cX8_holds 30 = .ok (.invokevirtual 83, 3) := by decide +kernel
theorem dX8_holds_33 : decode cX8_holds 33 = .ok (.ifCond .ne 6, 3) := by decide +kernel
theorem dX8_holds_36 : decode cX8_holds 36 = .ok (.bipush (-12), 2) := by decide +kernel
theorem dX8_holds_38 : decode cX8_holds 38 = .ok (.ireturn, 1) := by decide +kernel
theorem dX8_holds_39 : decode cX8_holds 39 = .ok (.aload 5, 2) := by decide +kernel
theorem dX8_holds_41 : decode cX8_holds 41 = .ok (.getfield 87, 3) := by decide +kernel
theorem dX8_holds_44 : decode cX8_holds 44 = .ok (.iload_n 2, 1) := by decide +kernel
theorem dX8_holds_45 : decode cX8_holds 45 = .ok (.laload, 1) := by decide +kernel
theorem dX8_holds_46 : decode cX8_holds 46 = .ok (.lload_n 3, 1) := by decide +kernel
theorem dX8_holds_47 : decode cX8_holds 47 = .ok (.lcmp, 1) := by decide +kernel
theorem dX8_holds_48 : decode cX8_holds 48 = .ok (.ifCond .ne 7, 3) := by decide +kernel
theorem dX8_holds_51 : decode cX8_holds 51 = .ok (.iconst 1, 1) := by decide +kernel
theorem dX8_holds_52 : decode cX8_holds 52 = .ok (.goto 4, 3) := by decide +kernel
theorem dX8_holds_55 : decode cX8_holds 55 = .ok (.iconst 0, 1) := by decide +kernel
theorem dX8_holds_56 : decode cX8_holds 56 = .ok (.ireturn, 1) := by decide +kernel
theorem dX8_read_0 : decode cX8_read 0 = .ok (.aload_n 0, 1) := by decide +kernel
theorem dX8_read_1 : decode cX8_read 1 = .ok (.iload_n 1, 1) := by decide +kernel
theorem dX8_read_2 : decode cX8_read 2 = .ok (.invokevirtual 101, 3) := by decide +kernel
theorem dX8_read_5 : decode cX8_read 5 = .ok (.astore 6, 2) := by decide +kernel
theorem dX8_read_7 : decode cX8_read 7 = .ok (.aload_n 0, 1) := by decide +kernel
theorem dX8_read_8 : decode cX8_read 8 = .ok (.iload 4, 2) := by decide +kernel
theorem dX8_read_10 : decode cX8_read 10 = .ok (.invokevirtual 72, 3) := by decide +kernel
theorem dX8_read_13 : decode cX8_read 13 = .ok (.astore 7, 2) := by decide +kernel
theorem dX8_read_15 : decode cX8_read 15 = .ok (.aload 6, 2) := by decide +kernel
theorem dX8_read_17 : decode cX8_read 17 = .ok (.ifnull 17, 3) := by decide +kernel
theorem dX8_read_20 : decode cX8_read 20 = .ok (.aload 7, 2) := by decide +kernel
theorem dX8_read_22 : decode cX8_read 22 = .ok (.ifnull 12, 3) := by decide +kernel
theorem dX8_read_25 : decode cX8_read 25 = .ok (.iload_n 2, 1) := by decide +kernel
theorem dX8_read_26 : decode cX8_read 26 = .ok (.ifCond .lt 8, 3) := by decide +kernel
theorem dX8_read_29 : decode cX8_read 29 = .ok (.iload_n 2, 1) := by decide +kernel
theorem dX8_read_30 : decode cX8_read 30 = .ok (.iconst 1, 1) := by decide +kernel
theorem dX8_read_31 : decode cX8_read 31 = .ok (.if_icmp .le 5, 3) := by decide +kernel
theorem dX8_read_34 : decode cX8_read 34 = .ok (.iconst (-1), 1) := by decide +kernel
theorem dX8_read_35 : decode cX8_read 35 = .ok (.ireturn, 1) := by decide +kernel
theorem dX8_read_36 : decode cX8_read 36 = .ok (.iload_n 2, 1) := by decide +kernel
theorem dX8_read_37 : decode cX8_read 37 = .ok (.iconst 1, 1) := by decide +kernel
theorem dX8_read_38 : decode cX8_read 38 = .ok (.if_icmp .ne 14, 3) := by decide +kernel
theorem dX8_read_41 : decode cX8_read 41 = .ok (.aload 6, 2) := by decide +kernel
theorem dX8_read_43 : decode cX8_read 43 = .ok (.iload_n 3, 1) := by decide +kernel
theorem dX8_read_44 : decode cX8_read 44 = .ok (.invokevirtual 105, 3) := by decide +kernel
theorem dX8_read_47 : decode cX8_read 47 = .ok (.ifCond .ne 5, 3) := by decide +kernel
theorem dX8_read_50 : decode cX8_read 50 = .ok (.iconst (-1), 1) := by decide +kernel
theorem dX8_read_51 : decode cX8_read 51 = .ok (.ireturn, 1) := by decide +kernel
theorem dX8_read_52 : decode cX8_read 52 = .ok (.aload 7, 2) := by decide +kernel
theorem dX8_read_54 : decode cX8_read 54 = .ok (.getfield 80, 3) := by decide +kernel
theorem dX8_read_57 : decode cX8_read 57 = .ok (.iconst (-1), 1) := by decide +kernel
theorem dX8_read_58 : decode cX8_read 58 = .ok (.if_icmp .ne 6, 3) := by decide +kernel
theorem dX8_read_61 : decode cX8_read 61 = .ok (.bipush (-11), 2) := by decide +kernel
theorem dX8_read_63 : decode cX8_read 63 = .ok (.ireturn, 1) := by decide +kernel
theorem dX8_read_64 : decode cX8_read 64 = .ok (.aload 7, 2) := by decide +kernel
theorem dX8_read_66 : decode cX8_read 66 = .ok (.iload 5, 2) := by decide +kernel
theorem dX8_read_68 : decode cX8_read 68 = .ok (.aload 6, 2) := by decide +kernel
theorem dX8_read_70 : decode cX8_read 70 = .ok (.getfield 109, 3) := by decide +kernel
theorem dX8_read_73 : decode cX8_read 73 = .ok (.invokevirtual 83, 3) := by decide +kernel
theorem dX8_read_76 : decode cX8_read 76 = .ok (.ifCond .ne 6, 3) := by decide +kernel
theorem dX8_read_79 : decode cX8_read 79 = .ok (.bipush (-12), 2) := by decide +kernel
theorem dX8_read_81 : decode cX8_read 81 = .ok (.ireturn, 1) := by decide +kernel
theorem dX8_read_82 : decode cX8_read 82 = .ok (.iload_n 2, 1) := by decide +kernel
theorem dX8_read_83 : decode cX8_read 83 = .ok (.ifCond .ne 7, 3) := by decide +kernel
theorem dX8_read_86 : decode cX8_read 86 = .ok (.iconst 0, 1) := by decide +kernel
theorem dX8_read_87 : decode cX8_read 87 = .ok (.goto 5, 3) := by decide +kernel
theorem dX8_read_90 : decode cX8_read 90 = .ok (.bipush (-9), 2) := by decide +kernel
theorem dX8_read_92 : decode cX8_read 92 = .ok (.istore 8, 2) := by decide +kernel
theorem dX8_read_94 : decode cX8_read 94 = .ok (.iload_n 2, 1) := by decide +kernel
theorem dX8_read_95 : decode cX8_read 95 = .ok (.ifCond .ne 9, 3) := by decide +kernel
theorem dX8_read_98 : decode cX8_read 98 = .ok (.sipush 200, 3) := by decide +kernel
theorem dX8_read_101 : decode cX8_read 101 = .ok (.goto 5, 3) := by decide +kernel
theorem dX8_read_104 : decode cX8_read 104 = .ok (.bipush 9, 2) := by decide +kernel
theorem dX8_read_106 : decode cX8_read 106 = .ok (.istore 9, 2) := by decide +kernel
theorem dX8_read_108 : decode cX8_read 108 = .ok (.aload 7, 2) := by decide +kernel
theorem dX8_read_110 : decode cX8_read 110 = .ok (.iload 5, 2) := by decide +kernel
theorem dX8_read_112 : decode cX8_read 112 = .ok (.aload 6, 2) := by decide +kernel
theorem dX8_read_114 : decode cX8_read 114 = .ok (.getfield 109, 3) := by decide +kernel
theorem dX8_read_117 : decode cX8_read 117 = .ok (.iload 8, 2) := by decide +kernel
theorem dX8_read_119 : decode cX8_read 119 = .ok (.iload 9, 2) := by decide +kernel
theorem dX8_read_121 : decode cX8_read 121 = .ok (.invokevirtual 112, 3) := by decide +kernel
theorem dX8_read_124 : decode cX8_read 124 = .ok (.ifCond .ne 6, 3) := by decide +kernel
theorem dX8_read_127 : decode cX8_read 127 = .ok (.bipush (-15), 2) := by decide +kernel
theorem dX8_read_129 : decode cX8_read 129 = .ok (.ireturn, 1) := by decide +kernel
theorem dX8_read_130 : decode cX8_read 130 = .ok (.aload_n 0, 1) := by decide +kernel
theorem dX8_read_131 : decode cX8_read 131 = .ok (.invokevirtual 116, 3) := by decide +kernel
theorem dX8_read_134 : decode cX8_read 134 = .ok (.iload_n 2, 1) := by decide +kernel
theorem dX8_read_135 : decode cX8_read 135 = .ok (.ifCond .ne 11, 3) := by decide +kernel
theorem dX8_read_138 : decode cX8_read 138 = .ok (.aload 6, 2) := by decide +kernel
theorem dX8_read_140 : decode cX8_read 140 = .ok (.getfield 119, 3) := by decide +kernel
theorem dX8_read_143 : decode cX8_read 143 = .ok (.goto 8, 3) := by decide +kernel
theorem dX8_read_146 : decode cX8_read 146 = .ok (.aload 6, 2) := by decide +kernel
theorem dX8_read_148 : decode cX8_read 148 = .ok (.getfield 123, 3) := by decide +kernel
theorem dX8_read_151 : decode cX8_read 151 = .ok (.astore 10, 2) := by decide +kernel
theorem dX8_read_153 : decode cX8_read 153 = .ok (.iload_n 2, 1) := by decide +kernel
theorem dX8_read_154 : decode cX8_read 154 = .ok (.ifCond .ne 7, 3) := by decide +kernel
theorem dX8_read_157 : decode cX8_read 157 = .ok (.iconst 0, 1) := by decide +kernel
theorem dX8_read_158 : decode cX8_read 158 = .ok (.goto 6, 3) := by decide +kernel
theorem dX8_read_161 : decode cX8_read 161 = .ok (.iload_n 3, 1) := by decide +kernel
theorem dX8_read_162 : decode cX8_read 162 = .ok (.iconst 4, 1) := by decide +kernel
theorem dX8_read_163 : decode cX8_read 163 = .ok (.imul, 1) := by decide +kernel
theorem dX8_read_164 : decode cX8_read 164 = .ok (.istore 11, 2) := by decide +kernel
theorem dX8_read_166 : decode cX8_read 166 = .ok (.iconst 0, 1) := by decide +kernel
theorem dX8_read_167 : decode cX8_read 167 = .ok (.istore 12, 2) := by decide +kernel
theorem dX8_read_169 : decode cX8_read 169 = .ok (.iload 12, 2) := by decide +kernel
theorem dX8_read_171 : decode cX8_read 171 = .ok (.aload 6, 2) := by decide +kernel
theorem dX8_read_173 : decode cX8_read 173 = .ok (.getfield 109, 3) := by decide +kernel
theorem dX8_read_176 : decode cX8_read 176 = .ok (.if_icmp .ge 29, 3) := by decide +kernel
theorem dX8_read_179 : decode cX8_read 179 = .ok (.aload 10, 2) := by decide +kernel
theorem dX8_read_181 : decode cX8_read 181 = .ok (.iload 11, 2) := by decide +kernel
theorem dX8_read_183 : decode cX8_read 183 = .ok (.iload 12, 2) := by decide +kernel
theorem dX8_read_185 : decode cX8_read 185 = .ok (.iadd, 1) := by decide +kernel
theorem dX8_read_186 : decode cX8_read 186 = .ok (.aload 7, 2) := by decide +kernel
theorem dX8_read_188 : decode cX8_read 188 = .ok (.getfield 87, 3) := by decide +kernel
theorem dX8_read_191 : decode cX8_read 191 = .ok (.iload 5, 2) := by decide +kernel
theorem dX8_read_193 : decode cX8_read 193 = .ok (.iload 12, 2) := by decide +kernel
theorem dX8_read_195 : decode cX8_read 195 = .ok (.iadd, 1) := by decide +kernel
theorem dX8_read_196 : decode cX8_read 196 = .ok (.laload, 1) := by decide +kernel
theorem dX8_read_197 : decode cX8_read 197 = .ok (.l2i, 1) := by decide +kernel
theorem dX8_read_198 : decode cX8_read 198 = .ok (.iastore, 1) := by decide +kernel
theorem dX8_read_199 : decode cX8_read 199 = .ok (.iinc 12 1, 3) := by decide +kernel
theorem dX8_read_202 : decode cX8_read 202 = .ok (.goto (-33), 3) := by decide +kernel
theorem dX8_read_205 : decode cX8_read 205 = .ok (.iconst 0, 1) := by decide +kernel
theorem dX8_read_206 : decode cX8_read 206 = .ok (.ireturn, 1) := by decide +kernel
theorem dX8_urn_0 : decode cX8_urn 0 = .ok (.iload_n 1, 1) := by decide +kernel
theorem dX8_urn_1 : decode cX8_urn 1 = .ok (.iconst 2, 1) := by decide +kernel
theorem dX8_urn_2 : decode cX8_urn 2 = .ok (.if_icmp .lt 8, 3) := by decide +kernel
theorem dX8_urn_5 : decode cX8_urn 5 = .ok (.iload_n 1, 1) := by decide +kernel
theorem dX8_urn_6 : decode cX8_urn 6 = .ok (.iconst 4, 1) := by decide +kernel
theorem dX8_urn_7 : decode cX8_urn 7 = .ok (.if_icmp .le 5, 3) := by decide +kernel
theorem dX8_urn_10 : decode cX8_urn 10 = .ok (.iconst (-1), 1) := by decide +kernel
theorem dX8_urn_11 : decode cX8_urn 11 = .ok (.ireturn, 1) := by decide +kernel
theorem dX8_urn_12 : decode cX8_urn 12 = .ok (.aload_n 0, 1) := by decide +kernel
theorem dX8_urn_13 : decode cX8_urn 13 = .ok (.getfield 63, 3) := by decide +kernel
theorem dX8_urn_16 : decode cX8_urn 16 = .ok (.bipush 8, 2) := by decide +kernel
theorem dX8_urn_18 : decode cX8_urn 18 = .ok (.if_icmp .lt 6, 3) := by decide +kernel
theorem dX8_urn_21 : decode cX8_urn 21 = .ok (.bipush (-3), 2) := by decide +kernel
theorem dX8_urn_23 : decode cX8_urn 23 = .ok (.ireturn, 1) := by decide +kernel
theorem dX8_urn_24 : decode cX8_urn 24 = .ok (.aload_n 0, 1) := by decide +kernel
theorem dX8_urn_25 : decode cX8_urn 25 = .ok (.getfield 17, 3) := by decide +kernel
theorem dX8_urn_28 : decode cX8_urn 28 = .ok (.aload_n 0, 1) := by decide +kernel
theorem dX8_urn_29 : decode cX8_urn 29 = .ok (.getfield 63, 3) := by decide +kernel
theorem dX8_urn_32 : decode cX8_urn 32 = .ok (.aaload, 1) := by decide +kernel
theorem dX8_urn_33 : decode cX8_urn 33 = .ok (.iload_n 1, 1) := by decide +kernel
theorem dX8_urn_34 : decode cX8_urn 34 = .ok (.putfield 109, 3) := by decide +kernel
theorem dX8_urn_37 : decode cX8_urn 37 = .ok (.aload_n 0, 1) := by decide +kernel
theorem dX8_urn_38 : decode cX8_urn 38 = .ok (.dup, 1) := by decide +kernel
theorem dX8_urn_39 : decode cX8_urn 39 = .ok (.getfield 63, 3) := by decide +kernel
theorem dX8_urn_42 : decode cX8_urn 42 = .ok (.iconst 1, 1) := by decide +kernel
theorem dX8_urn_43 : decode cX8_urn 43 = .ok (.iadd, 1) := by decide +kernel
theorem dX8_urn_44 : decode cX8_urn 44 = .ok (.putfield 63, 3) := by decide +kernel
theorem dX8_urn_47 : decode cX8_urn 47 = .ok (.aload_n 0, 1) := by decide +kernel
theorem dX8_urn_48 : decode cX8_urn 48 = .ok (.getfield 63, 3) := by decide +kernel
theorem dX8_urn_51 : decode cX8_urn 51 = .ok (.iconst 1, 1) := by decide +kernel
theorem dX8_urn_52 : decode cX8_urn 52 = .ok (.isub, 1) := by decide +kernel
theorem dX8_urn_53 : decode cX8_urn 53 = .ok (.ireturn, 1) := by decide +kernel
theorem dX8_put_0 : decode cX8_put 0 = .ok (.aload_n 0, 1) := by decide +kernel
theorem dX8_put_1 : decode cX8_put 1 = .ok (.iload_n 1, 1) := by decide +kernel
theorem dX8_put_2 : decode cX8_put 2 = .ok (.invokevirtual 101, 3) := by decide +kernel
theorem dX8_put_5 : decode cX8_put 5 = .ok (.astore 4, 2) := by decide +kernel
theorem dX8_put_7 : decode cX8_put 7 = .ok (.aload 4, 2) := by decide +kernel
theorem dX8_put_9 : decode cX8_put 9 = .ok (.ifnull 23, 3) := by decide +kernel
theorem dX8_put_12 : decode cX8_put 12 = .ok (.aload 4, 2) := by decide +kernel
theorem dX8_put_14 : decode cX8_put 14 = .ok (.iload_n 2, 1) := by decide +kernel
theorem dX8_put_15 : decode cX8_put 15 = .ok (.invokevirtual 105, 3) := by decide +kernel
theorem dX8_put_18 : decode cX8_put 18 = .ok (.ifCond .eq 14, 3) := by decide +kernel
theorem dX8_put_21 : decode cX8_put 21 = .ok (.iload_n 3, 1) := by decide +kernel
theorem dX8_put_22 : decode cX8_put 22 = .ok (.ifCond .lt 10, 3) := by decide +kernel
theorem dX8_put_25 : decode cX8_put 25 = .ok (.iload_n 3, 1) := by decide +kernel
theorem dX8_put_26 : decode cX8_put 26 = .ok (.sipush 200, 3) := by decide +kernel
theorem dX8_put_29 : decode cX8_put 29 = .ok (.if_icmp .le 5, 3) := by decide +kernel
theorem dX8_put_32 : decode cX8_put 32 = .ok (.iconst (-1), 1) := by decide +kernel
theorem dX8_put_33 : decode cX8_put 33 = .ok (.ireturn, 1) := by decide +kernel
theorem dX8_put_34 : decode cX8_put 34 = .ok (.aload_n 0, 1) := by decide +kernel
theorem dX8_put_35 : decode cX8_put 35 = .ok (.invokevirtual 116, 3) := by decide +kernel
theorem dX8_put_38 : decode cX8_put 38 = .ok (.aload 4, 2) := by decide +kernel
theorem dX8_put_40 : decode cX8_put 40 = .ok (.getfield 119, 3) := by decide +kernel
theorem dX8_put_43 : decode cX8_put 43 = .ok (.iload_n 2, 1) := by decide +kernel
theorem dX8_put_44 : decode cX8_put 44 = .ok (.iaload, 1) := by decide +kernel
theorem dX8_put_45 : decode cX8_put 45 = .ok (.istore 5, 2) := by decide +kernel
theorem dX8_put_47 : decode cX8_put 47 = .ok (.aload 4, 2) := by decide +kernel
theorem dX8_put_49 : decode cX8_put 49 = .ok (.getfield 119, 3) := by decide +kernel
theorem dX8_put_52 : decode cX8_put 52 = .ok (.iload_n 2, 1) := by decide +kernel
theorem dX8_put_53 : decode cX8_put 53 = .ok (.iload_n 3, 1) := by decide +kernel
theorem dX8_put_54 : decode cX8_put 54 = .ok (.iastore, 1) := by decide +kernel
theorem dX8_put_55 : decode cX8_put 55 = .ok (.iload 5, 2) := by decide +kernel
theorem dX8_put_57 : decode cX8_put 57 = .ok (.ireturn, 1) := by decide +kernel
theorem dX8_add_0 : decode cX8_add 0 = .ok (.aload_n 0, 1) := by decide +kernel
theorem dX8_add_1 : decode cX8_add 1 = .ok (.iload_n 1, 1) := by decide +kernel
theorem dX8_add_2 : decode cX8_add 2 = .ok (.invokevirtual 101, 3) := by decide +kernel
theorem dX8_add_5 : decode cX8_add 5 = .ok (.astore 5, 2) := by decide +kernel
theorem dX8_add_7 : decode cX8_add 7 = .ok (.aload 5, 2) := by decide +kernel
theorem dX8_add_9 : decode cX8_add 9 = .ok (.ifnull 35, 3) := by decide +kernel
theorem dX8_add_12 : decode cX8_add 12 = .ok (.aload 5, 2) := by decide +kernel
theorem dX8_add_14 : decode cX8_add 14 = .ok (.iload_n 2, 1) := by decide +kernel
theorem dX8_add_15 : decode cX8_add 15 = .ok (.invokevirtual 105, 3) := by decide +kernel
theorem dX8_add_18 : decode cX8_add 18 = .ok (.ifCond .eq 26, 3) := by decide +kernel
theorem dX8_add_21 : decode cX8_add 21 = .ok (.aload 5, 2) := by decide +kernel
theorem dX8_add_23 : decode cX8_add 23 = .ok (.iload_n 3, 1) := by decide +kernel
theorem dX8_add_24 : decode cX8_add 24 = .ok (.invokevirtual 105, 3) := by decide +kernel
theorem dX8_add_27 : decode cX8_add 27 = .ok (.ifCond .eq 17, 3) := by decide +kernel
theorem dX8_add_30 : decode cX8_add 30 = .ok (.iload 4, 2) := by decide +kernel
theorem dX8_add_32 : decode cX8_add 32 = .ok (.bipush (-9), 2) := by decide +kernel
theorem dX8_add_34 : decode cX8_add 34 = .ok (.if_icmp .lt 10, 3) := by decide +kernel
theorem dX8_add_37 : decode cX8_add 37 = .ok (.iload 4, 2) := by decide +kernel
theorem dX8_add_39 : decode cX8_add 39 = .ok (.bipush 9, 2) := by decide +kernel
theorem dX8_add_41 : decode cX8_add 41 = .ok (.if_icmp .le 6, 3) := by decide +kernel
theorem dX8_add_44 : decode cX8_add 44 = .ok (.bipush (-100), 2) := by decide +kernel
theorem dX8_add_46 : decode cX8_add 46 = .ok (.ireturn, 1) := by decide +kernel
theorem dX8_add_47 : decode cX8_add 47 = .ok (.aload_n 0, 1) := by decide +kernel
theorem dX8_add_48 : decode cX8_add 48 = .ok (.invokevirtual 116, 3) := by decide +kernel
theorem dX8_add_51 : decode cX8_add 51 = .ok (.aload 5, 2) := by decide +kernel
theorem dX8_add_53 : decode cX8_add 53 = .ok (.getfield 123, 3) := by decide +kernel
theorem dX8_add_56 : decode cX8_add 56 = .ok (.iload_n 2, 1) := by decide +kernel
theorem dX8_add_57 : decode cX8_add 57 = .ok (.iconst 4, 1) := by decide +kernel
theorem dX8_add_58 : decode cX8_add 58 = .ok (.imul, 1) := by decide +kernel
theorem dX8_add_59 : decode cX8_add 59 = .ok (.iload_n 3, 1) := by decide +kernel
theorem dX8_add_60 : decode cX8_add 60 = .ok (.iadd, 1) := by decide +kernel
theorem dX8_add_61 : decode cX8_add 61 = .ok (.iaload, 1) := by decide +kernel
theorem dX8_add_62 : decode cX8_add 62 = .ok (.istore 6, 2) := by decide +kernel
theorem dX8_add_64 : decode cX8_add 64 = .ok (.aload 5, 2) := by decide +kernel
theorem dX8_add_66 : decode cX8_add 66 = .ok (.getfield 123, 3) := by decide +kernel
theorem dX8_add_69 : decode cX8_add 69 = .ok (.iload_n 2, 1) := by decide +kernel
theorem dX8_add_70 : decode cX8_add 70 = .ok (.iconst 4, 1) := by decide +kernel
theorem dX8_add_71 : decode cX8_add 71 = .ok (.imul, 1) := by decide +kernel
theorem dX8_add_72 : decode cX8_add 72 = .ok (.iload_n 3, 1) := by decide +kernel
theorem dX8_add_73 : decode cX8_add 73 = .ok (.iadd, 1) := by decide +kernel
theorem dX8_add_74 : decode cX8_add 74 = .ok (.iload 4, 2) := by decide +kernel
theorem dX8_add_76 : decode cX8_add 76 = .ok (.iastore, 1) := by decide +kernel
theorem dX8_add_77 : decode cX8_add 77 = .ok (.iload 6, 2) := by decide +kernel
theorem dX8_add_79 : decode cX8_add 79 = .ok (.ireturn, 1) := by decide +kernel
theorem dX8_is_0 : decode cX8_is 0 = .ok (.aload_n 0, 1) := by decide +kernel
theorem dX8_is_1 : decode cX8_is 1 = .ok (.iload_n 1, 1) := by decide +kernel
theorem dX8_is_2 : decode cX8_is 2 = .ok (.invokevirtual 101, 3) := by decide +kernel
theorem dX8_is_5 : decode cX8_is 5 = .ok (.astore 4, 2) := by decide +kernel
theorem dX8_is_7 : decode cX8_is 7 = .ok (.aload 4, 2) := by decide +kernel
theorem dX8_is_9 : decode cX8_is 9 = .ok (.ifnull 22, 3) := by decide +kernel
theorem dX8_is_12 : decode cX8_is 12 = .ok (.aload 4, 2) := by decide +kernel
theorem dX8_is_14 : decode cX8_is 14 = .ok (.iload_n 2, 1) := by decide +kernel
theorem dX8_is_15 : decode cX8_is 15 = .ok (.invokevirtual 105, 3) := by decide +kernel
theorem dX8_is_18 : decode cX8_is 18 = .ok (.ifCond .eq 13, 3) := by decide +kernel
theorem dX8_is_21 : decode cX8_is 21 = .ok (.iload_n 3, 1) := by decide +kernel
theorem dX8_is_22 : decode cX8_is 22 = .ok (.iconst (-1), 1) := by decide +kernel
theorem dX8_is_23 : decode cX8_is 23 = .ok (.if_icmp .lt 8, 3) := by decide +kernel
theorem dX8_is_26 : decode cX8_is 26 = .ok (.iload_n 3, 1) := by decide +kernel
theorem dX8_is_27 : decode cX8_is 27 = .ok (.iload_n 1, 1) := by decide +kernel
theorem dX8_is_28 : decode cX8_is 28 = .ok (.if_icmp .lt 5, 3) := by decide +kernel
theorem dX8_is_31 : decode cX8_is 31 = .ok (.iconst (-1), 1) := by decide +kernel
theorem dX8_is_32 : decode cX8_is 32 = .ok (.ireturn, 1) := by decide +kernel
theorem dX8_is_33 : decode cX8_is 33 = .ok (.aload_n 0, 1) := by decide +kernel
theorem dX8_is_34 : decode cX8_is 34 = .ok (.invokevirtual 116, 3) := by decide +kernel
theorem dX8_is_37 : decode cX8_is 37 = .ok (.aload 4, 2) := by decide +kernel
theorem dX8_is_39 : decode cX8_is 39 = .ok (.getfield 126, 3) := by decide +kernel
theorem dX8_is_42 : decode cX8_is 42 = .ok (.iload_n 2, 1) := by decide +kernel
theorem dX8_is_43 : decode cX8_is 43 = .ok (.iaload, 1) := by decide +kernel
theorem dX8_is_44 : decode cX8_is 44 = .ok (.istore 5, 2) := by decide +kernel
theorem dX8_is_46 : decode cX8_is 46 = .ok (.aload 4, 2) := by decide +kernel
theorem dX8_is_48 : decode cX8_is 48 = .ok (.getfield 126, 3) := by decide +kernel
theorem dX8_is_51 : decode cX8_is 51 = .ok (.iload_n 2, 1) := by decide +kernel
theorem dX8_is_52 : decode cX8_is 52 = .ok (.iload_n 3, 1) := by decide +kernel
theorem dX8_is_53 : decode cX8_is 53 = .ok (.iastore, 1) := by decide +kernel
theorem dX8_is_54 : decode cX8_is 54 = .ok (.iload 5, 2) := by decide +kernel
theorem dX8_is_56 : decode cX8_is 56 = .ok (.ifCond .ge 8, 3) := by decide +kernel
theorem dX8_is_59 : decode cX8_is 59 = .ok (.bipush (-4), 2) := by decide +kernel
theorem dX8_is_61 : decode cX8_is 61 = .ok (.goto 5, 3) := by decide +kernel
theorem dX8_is_64 : decode cX8_is 64 = .ok (.iload 5, 2) := by decide +kernel
theorem dX8_is_66 : decode cX8_is 66 = .ok (.ireturn, 1) := by decide +kernel
theorem dX8_about_0 : decode cX8_about 0 = .ok (.aload_n 0, 1) := by decide +kernel
theorem dX8_about_1 : decode cX8_about 1 = .ok (.iload_n 1, 1) := by decide +kernel
theorem dX8_about_2 : decode cX8_about 2 = .ok (.invokevirtual 101, 3) := by decide +kernel
theorem dX8_about_5 : decode cX8_about 5 = .ok (.astore_n 3, 1) := by decide +kernel
theorem dX8_about_6 : decode cX8_about 6 = .ok (.aload_n 3, 1) := by decide +kernel
theorem dX8_about_7 : decode cX8_about 7 = .ok (.ifnonnull 7, 3) := by decide +kernel
theorem dX8_about_10 : decode cX8_about 10 = .ok (.sipush (-1000), 3) := by decide +kernel
theorem dX8_about_13 : decode cX8_about 13 = .ok (.ireturn, 1) := by decide +kernel
theorem dX8_about_14 : decode cX8_about 14 = .ok (.iload_n 2, 1) := by decide +kernel
theorem dX8_about_15 : decode cX8_about 15 = .ok (.tableswitch 95 0 5 #[37, 42, 47, 52, 65, 82], 37) := by decide +kernel
theorem dX8_about_52 : decode cX8_about 52 = .ok (.aload_n 3, 1) := by decide +kernel
theorem dX8_about_53 : decode cX8_about 53 = .ok (.getfield 109, 3) := by decide +kernel
theorem dX8_about_56 : decode cX8_about 56 = .ok (.ireturn, 1) := by decide +kernel
theorem dX8_about_57 : decode cX8_about 57 = .ok (.aload_n 3, 1) := by decide +kernel
theorem dX8_about_58 : decode cX8_about 58 = .ok (.invokevirtual 129, 3) := by decide +kernel
theorem dX8_about_61 : decode cX8_about 61 = .ok (.ireturn, 1) := by decide +kernel
theorem dX8_about_62 : decode cX8_about 62 = .ok (.aload_n 3, 1) := by decide +kernel
theorem dX8_about_63 : decode cX8_about 63 = .ok (.getfield 133, 3) := by decide +kernel
theorem dX8_about_66 : decode cX8_about 66 = .ok (.ireturn, 1) := by decide +kernel
theorem dX8_about_67 : decode cX8_about 67 = .ok (.aload_n 3, 1) := by decide +kernel
theorem dX8_about_68 : decode cX8_about 68 = .ok (.invokevirtual 136, 3) := by decide +kernel
theorem dX8_about_71 : decode cX8_about 71 = .ok (.ifCond .eq 7, 3) := by decide +kernel
theorem dX8_about_74 : decode cX8_about 74 = .ok (.iconst 1, 1) := by decide +kernel
theorem dX8_about_75 : decode cX8_about 75 = .ok (.goto 4, 3) := by decide +kernel
theorem dX8_about_78 : decode cX8_about 78 = .ok (.iconst 0, 1) := by decide +kernel
theorem dX8_about_79 : decode cX8_about 79 = .ok (.ireturn, 1) := by decide +kernel
theorem dX8_about_80 : decode cX8_about 80 = .ok (.aload_n 3, 1) := by decide +kernel
theorem dX8_about_81 : decode cX8_about 81 = .ok (.invokevirtual 136, 3) := by decide +kernel
theorem dX8_about_84 : decode cX8_about 84 = .ok (.ifCond .eq 11, 3) := by decide +kernel
theorem dX8_about_87 : decode cX8_about 87 = .ok (.aload_n 3, 1) := by decide +kernel
theorem dX8_about_88 : decode cX8_about 88 = .ok (.iconst 0, 1) := by decide +kernel
theorem dX8_about_89 : decode cX8_about 89 = .ok (.invokevirtual 140, 3) := by decide +kernel
theorem dX8_about_92 : decode cX8_about 92 = .ok (.goto 4, 3) := by decide +kernel
theorem dX8_about_95 : decode cX8_about 95 = .ok (.iconst 0, 1) := by decide +kernel
theorem dX8_about_96 : decode cX8_about 96 = .ok (.ireturn, 1) := by decide +kernel
theorem dX8_about_97 : decode cX8_about 97 = .ok (.aload_n 3, 1) := by decide +kernel
theorem dX8_about_98 : decode cX8_about 98 = .ok (.invokevirtual 144, 3) := by decide +kernel
theorem dX8_about_101 : decode cX8_about 101 = .ok (.ifCond .eq 7, 3) := by decide +kernel
theorem dX8_about_104 : decode cX8_about 104 = .ok (.iconst 1, 1) := by decide +kernel
theorem dX8_about_105 : decode cX8_about 105 = .ok (.goto 4, 3) := by decide +kernel
theorem dX8_about_108 : decode cX8_about 108 = .ok (.iconst 0, 1) := by decide +kernel
theorem dX8_about_109 : decode cX8_about 109 = .ok (.ireturn, 1) := by decide +kernel
theorem dX8_about_110 : decode cX8_about 110 = .ok (.iload_n 2, 1) := by decide +kernel
theorem dX8_about_111 : decode cX8_about 111 = .ok (.bipush 6, 2) := by decide +kernel
theorem dX8_about_113 : decode cX8_about 113 = .ok (.if_icmp .lt 26, 3) := by decide +kernel
theorem dX8_about_116 : decode cX8_about 116 = .ok (.iload_n 2, 1) := by decide +kernel
theorem dX8_about_117 : decode cX8_about 117 = .ok (.bipush 6, 2) := by decide +kernel
theorem dX8_about_119 : decode cX8_about 119 = .ok (.aload_n 3, 1) := by decide +kernel
theorem dX8_about_120 : decode cX8_about 120 = .ok (.getfield 109, 3) := by decide +kernel
theorem dX8_about_123 : decode cX8_about 123 = .ok (.iadd, 1) := by decide +kernel
theorem dX8_about_124 : decode cX8_about 124 = .ok (.if_icmp .ge 15, 3) := by decide +kernel
theorem dX8_about_127 : decode cX8_about 127 = .ok (.aload_n 3, 1) := by decide +kernel
theorem dX8_about_128 : decode cX8_about 128 = .ok (.getfield 119, 3) := by decide +kernel
theorem dX8_about_131 : decode cX8_about 131 = .ok (.iload_n 2, 1) := by decide +kernel
theorem dX8_about_132 : decode cX8_about 132 = .ok (.bipush 6, 2) := by decide +kernel
theorem dX8_about_134 : decode cX8_about 134 = .ok (.isub, 1) := by decide +kernel
theorem dX8_about_135 : decode cX8_about 135 = .ok (.iaload, 1) := by decide +kernel
theorem dX8_about_136 : decode cX8_about 136 = .ok (.goto 6, 3) := by decide +kernel
theorem dX8_about_139 : decode cX8_about 139 = .ok (.sipush (-1000), 3) := by decide +kernel
theorem dX8_about_142 : decode cX8_about 142 = .ok (.ireturn, 1) := by decide +kernel
theorem dX8_added_0 : decode cX8_added 0 = .ok (.aload_n 0, 1) := by decide +kernel
theorem dX8_added_1 : decode cX8_added 1 = .ok (.iload_n 1, 1) := by decide +kernel
theorem dX8_added_2 : decode cX8_added 2 = .ok (.invokevirtual 101, 3) := by decide +kernel
theorem dX8_added_5 : decode cX8_added 5 = .ok (.astore 4, 2) := by decide +kernel
theorem dX8_added_7 : decode cX8_added 7 = .ok (.aload 4, 2) := by decide +kernel
theorem dX8_added_9 : decode cX8_added 9 = .ok (.ifnull 21, 3) := by decide +kernel
theorem dX8_added_12 : decode cX8_added 12 = .ok (.aload 4, 2) := by decide +kernel
theorem dX8_added_14 : decode cX8_added 14 = .ok (.iload_n 2, 1) := by decide +kernel
theorem dX8_added_15 : decode cX8_added 15 = .ok (.invokevirtual 105, 3) := by decide +kernel
theorem dX8_added_18 : decode cX8_added 18 = .ok (.ifCond .eq 12, 3) := by decide +kernel
theorem dX8_added_21 : decode cX8_added 21 = .ok (.aload 4, 2) := by decide +kernel
theorem dX8_added_23 : decode cX8_added 23 = .ok (.iload_n 3, 1) := by decide +kernel
theorem dX8_added_24 : decode cX8_added 24 = .ok (.invokevirtual 105, 3) := by decide +kernel
theorem dX8_added_27 : decode cX8_added 27 = .ok (.ifCond .ne 6, 3) := by decide +kernel
theorem dX8_added_30 : decode cX8_added 30 = .ok (.bipush (-100), 2) := by decide +kernel
theorem dX8_added_32 : decode cX8_added 32 = .ok (.ireturn, 1) := by decide +kernel
theorem dX8_added_33 : decode cX8_added 33 = .ok (.aload 4, 2) := by decide +kernel
theorem dX8_added_35 : decode cX8_added 35 = .ok (.getfield 123, 3) := by decide +kernel
theorem dX8_added_38 : decode cX8_added 38 = .ok (.iload_n 2, 1) := by decide +kernel
theorem dX8_added_39 : decode cX8_added 39 = .ok (.iconst 4, 1) := by decide +kernel
theorem dX8_added_40 : decode cX8_added 40 = .ok (.imul, 1) := by decide +kernel
theorem dX8_added_41 : decode cX8_added 41 = .ok (.iload_n 3, 1) := by decide +kernel
theorem dX8_added_42 : decode cX8_added 42 = .ok (.iadd, 1) := by decide +kernel
theorem dX8_added_43 : decode cX8_added 43 = .ok (.iaload, 1) := by decide +kernel
theorem dX8_added_44 : decode cX8_added 44 = .ok (.ireturn, 1) := by decide +kernel
theorem dX8_draw_0 : decode cX8_draw 0 = .ok (.aload_n 0, 1) := by decide +kernel
theorem dX8_draw_1 : decode cX8_draw 1 = .ok (.iload_n 1, 1) := by decide +kernel
theorem dX8_draw_2 : decode cX8_draw 2 = .ok (.invokevirtual 101, 3) := by decide +kernel
theorem dX8_draw_5 : decode cX8_draw 5 = .ok (.astore_n 3, 1) := by decide +kernel
theorem dX8_draw_6 : decode cX8_draw 6 = .ok (.aload_n 3, 1) := by decide +kernel
theorem dX8_draw_7 : decode cX8_draw 7 = .ok (.ifnull 11, 3) := by decide +kernel
theorem dX8_draw_10 : decode cX8_draw 10 = .ok (.aload_n 3, 1) := by decide +kernel
theorem dX8_draw_11 : decode cX8_draw 11 = .ok (.iload_n 2, 1) := by decide +kernel
theorem dX8_draw_12 : decode cX8_draw 12 = .ok (.invokevirtual 105, 3) := by decide +kernel
theorem dX8_draw_15 : decode cX8_draw 15 = .ok (.ifCond .ne 5, 3) := by decide +kernel
theorem dX8_draw_18 : decode cX8_draw 18 = .ok (.iconst (-1), 1) := by decide +kernel
theorem dX8_draw_19 : decode cX8_draw 19 = .ok (.ireturn, 1) := by decide +kernel
theorem dX8_draw_20 : decode cX8_draw 20 = .ok (.aload_n 3, 1) := by decide +kernel
theorem dX8_draw_21 : decode cX8_draw 21 = .ok (.aload_n 3, 1) := by decide +kernel
theorem dX8_draw_22 : decode cX8_draw 22 = .ok (.getfield 119, 3) := by decide +kernel
theorem dX8_draw_25 : decode cX8_draw 25 = .ok (.iload_n 2, 1) := by decide +kernel
theorem dX8_draw_26 : decode cX8_draw 26 = .ok (.invokevirtual 147, 3) := by decide +kernel
theorem dX8_draw_29 : decode cX8_draw 29 = .ok (.ifCond .ne 6, 3) := by decide +kernel
theorem dX8_draw_32 : decode cX8_draw 32 = .ok (.bipush (-5), 2) := by decide +kernel
theorem dX8_draw_34 : decode cX8_draw 34 = .ok (.ireturn, 1) := by decide +kernel
theorem dX8_draw_35 : decode cX8_draw 35 = .ok (.aload_n 0, 1) := by decide +kernel
theorem dX8_draw_36 : decode cX8_draw 36 = .ok (.invokevirtual 116, 3) := by decide +kernel
theorem dX8_draw_39 : decode cX8_draw 39 = .ok (.aload_n 3, 1) := by decide +kernel
theorem dX8_draw_40 : decode cX8_draw 40 = .ok (.iload_n 2, 1) := by decide +kernel
theorem dX8_draw_41 : decode cX8_draw 41 = .ok (.invokevirtual 151, 3) := by decide +kernel
theorem dX8_draw_44 : decode cX8_draw 44 = .ok (.aload_n 3, 1) := by decide +kernel
theorem dX8_draw_45 : decode cX8_draw 45 = .ok (.invokevirtual 129, 3) := by decide +kernel
theorem dX8_draw_48 : decode cX8_draw 48 = .ok (.ireturn, 1) := by decide +kernel
theorem dX8_seed_0 : decode cX8_seed 0 = .ok (.iload_n 1, 1) := by decide +kernel
theorem dX8_seed_1 : decode cX8_seed 1 = .ok (.iconst 1, 1) := by decide +kernel
theorem dX8_seed_2 : decode cX8_seed 2 = .ok (.if_icmp .lt 9, 3) := by decide +kernel
theorem dX8_seed_5 : decode cX8_seed 5 = .ok (.iload_n 1, 1) := by decide +kernel
theorem dX8_seed_6 : decode cX8_seed 6 = .ok (.ldc 155, 2) := by decide +kernel
theorem dX8_seed_8 : decode cX8_seed 8 = .ok (.if_icmp .le 5, 3) := by decide +kernel
theorem dX8_seed_11 : decode cX8_seed 11 = .ok (.iconst (-1), 1) := by decide +kernel
theorem dX8_seed_12 : decode cX8_seed 12 = .ok (.ireturn, 1) := by decide +kernel
theorem dX8_seed_13 : decode cX8_seed 13 = .ok (.aload_n 0, 1) := by decide +kernel
theorem dX8_seed_14 : decode cX8_seed 14 = .ok (.iload_n 1, 1) := by decide +kernel
theorem dX8_seed_15 : decode cX8_seed 15 = .ok (.putfield 67, 3) := by decide +kernel
theorem dX8_seed_18 : decode cX8_seed 18 = .ok (.iconst 0, 1) := by decide +kernel
theorem dX8_seed_19 : decode cX8_seed 19 = .ok (.ireturn, 1) := by decide +kernel
theorem dX8_drawn_0 : decode cX8_drawn 0 = .ok (.aload_n 0, 1) := by decide +kernel
theorem dX8_drawn_1 : decode cX8_drawn 1 = .ok (.iload_n 1, 1) := by decide +kernel
theorem dX8_drawn_2 : decode cX8_drawn 2 = .ok (.invokevirtual 101, 3) := by decide +kernel
theorem dX8_drawn_5 : decode cX8_drawn 5 = .ok (.ifnonnull 5, 3) := by decide +kernel
theorem dX8_drawn_8 : decode cX8_drawn 8 = .ok (.iconst (-1), 1) := by decide +kernel
theorem dX8_drawn_9 : decode cX8_drawn 9 = .ok (.ireturn, 1) := by decide +kernel
theorem dX8_drawn_10 : decode cX8_drawn 10 = .ok (.aload_n 0, 1) := by decide +kernel
theorem dX8_drawn_11 : decode cX8_drawn 11 = .ok (.iload_n 1, 1) := by decide +kernel
theorem dX8_drawn_12 : decode cX8_drawn 12 = .ok (.invokevirtual 156, 3) := by decide +kernel
theorem dX8_drawn_15 : decode cX8_drawn 15 = .ok (.ifCond .ne 6, 3) := by decide +kernel
theorem dX8_drawn_18 : decode cX8_drawn 18 = .ok (.bipush (-5), 2) := by decide +kernel
theorem dX8_drawn_20 : decode cX8_drawn 20 = .ok (.ireturn, 1) := by decide +kernel
theorem dX8_drawn_21 : decode cX8_drawn 21 = .ok (.aload_n 0, 1) := by decide +kernel
theorem dX8_drawn_22 : decode cX8_drawn 22 = .ok (.invokevirtual 116, 3) := by decide +kernel
theorem dX8_drawn_25 : decode cX8_drawn 25 = .ok (.aload_n 0, 1) := by decide +kernel
theorem dX8_drawn_26 : decode cX8_drawn 26 = .ok (.invokevirtual 159, 3) := by decide +kernel
theorem dX8_drawn_29 : decode cX8_drawn 29 = .ok (.iconst 1, 1) := by decide +kernel
theorem dX8_drawn_30 : decode cX8_drawn 30 = .ok (.istore_n 2, 1) := by decide +kernel
theorem dX8_drawn_31 : decode cX8_drawn 31 = .ok (.iconst 0, 1) := by decide +kernel
theorem dX8_drawn_32 : decode cX8_drawn 32 = .ok (.istore_n 3, 1) := by decide +kernel
theorem dX8_drawn_33 : decode cX8_drawn 33 = .ok (.iload_n 3, 1) := by decide +kernel
theorem dX8_drawn_34 : decode cX8_drawn 34 = .ok (.aload_n 0, 1) := by decide +kernel
theorem dX8_drawn_35 : decode cX8_drawn 35 = .ok (.getfield 31, 3) := by decide +kernel
theorem dX8_drawn_38 : decode cX8_drawn 38 = .ok (.getfield 162, 3) := by decide +kernel
theorem dX8_drawn_41 : decode cX8_drawn 41 = .ok (.if_icmp .ge 24, 3) := by decide +kernel
theorem dX8_drawn_44 : decode cX8_drawn 44 = .ok (.iload_n 2, 1) := by decide +kernel
theorem dX8_drawn_45 : decode cX8_drawn 45 = .ok (.bipush 10, 2) := by decide +kernel
theorem dX8_drawn_47 : decode cX8_drawn 47 = .ok (.imul, 1) := by decide +kernel
theorem dX8_drawn_48 : decode cX8_drawn 48 = .ok (.aload_n 0, 1) := by decide +kernel
theorem dX8_drawn_49 : decode cX8_drawn 49 = .ok (.getfield 31, 3) := by decide +kernel
theorem dX8_drawn_52 : decode cX8_drawn 52 = .ok (.getfield 165, 3) := by decide +kernel
theorem dX8_drawn_55 : decode cX8_drawn 55 = .ok (.iload_n 3, 1) := by decide +kernel
theorem dX8_drawn_56 : decode cX8_drawn 56 = .ok (.iaload, 1) := by decide +kernel
theorem dX8_drawn_57 : decode cX8_drawn 57 = .ok (.iadd, 1) := by decide +kernel
theorem dX8_drawn_58 : decode cX8_drawn 58 = .ok (.istore_n 2, 1) := by decide +kernel
theorem dX8_drawn_59 : decode cX8_drawn 59 = .ok (.iinc 3 1, 3) := by decide +kernel
theorem dX8_drawn_62 : decode cX8_drawn 62 = .ok (.goto (-29), 3) := by decide +kernel
theorem dX8_drawn_65 : decode cX8_drawn 65 = .ok (.iload_n 2, 1) := by decide +kernel
theorem dX8_drawn_66 : decode cX8_drawn 66 = .ok (.ireturn, 1) := by decide +kernel
theorem dX8_shake_0 : decode cX8_shake 0 = .ok (.aload_n 0, 1) := by decide +kernel
theorem dX8_shake_1 : decode cX8_shake 1 = .ok (.iload_n 1, 1) := by decide +kernel
theorem dX8_shake_2 : decode cX8_shake 2 = .ok (.invokevirtual 101, 3) := by decide +kernel
theorem dX8_shake_5 : decode cX8_shake 5 = .ok (.ifnull 14, 3) := by decide +kernel
theorem dX8_shake_8 : decode cX8_shake 8 = .ok (.iload_n 2, 1) := by decide +kernel
theorem dX8_shake_9 : decode cX8_shake 9 = .ok (.iconst 1, 1) := by decide +kernel
theorem dX8_shake_10 : decode cX8_shake 10 = .ok (.if_icmp .lt 9, 3) := by decide +kernel
theorem dX8_shake_13 : decode cX8_shake 13 = .ok (.iload_n 2, 1) := by decide +kernel
theorem dX8_shake_14 : decode cX8_shake 14 = .ok (.bipush 50, 2) := by decide +kernel
theorem dX8_shake_16 : decode cX8_shake 16 = .ok (.if_icmp .le 5, 3) := by decide +kernel
theorem dX8_shake_19 : decode cX8_shake 19 = .ok (.iconst (-1), 1) := by decide +kernel
theorem dX8_shake_20 : decode cX8_shake 20 = .ok (.ireturn, 1) := by decide +kernel
theorem dX8_shake_21 : decode cX8_shake 21 = .ok (.iconst 0, 1) := by decide +kernel
theorem dX8_shake_22 : decode cX8_shake 22 = .ok (.istore_n 3, 1) := by decide +kernel
theorem dX8_shake_23 : decode cX8_shake 23 = .ok (.iload_n 3, 1) := by decide +kernel
theorem dX8_shake_24 : decode cX8_shake 24 = .ok (.iload_n 2, 1) := by decide +kernel
theorem dX8_shake_25 : decode cX8_shake 25 = .ok (.if_icmp .ge 29, 3) := by decide +kernel
theorem dX8_shake_28 : decode cX8_shake 28 = .ok (.aload_n 0, 1) := by decide +kernel
theorem dX8_shake_29 : decode cX8_shake 29 = .ok (.iload_n 1, 1) := by decide +kernel
theorem dX8_shake_30 : decode cX8_shake 30 = .ok (.invokevirtual 156, 3) := by decide +kernel
theorem dX8_shake_33 : decode cX8_shake 33 = .ok (.ifCond .eq 21, 3) := by decide +kernel
theorem dX8_shake_36 : decode cX8_shake 36 = .ok (.iload_n 3, 1) := by decide +kernel
theorem dX8_shake_37 : decode cX8_shake 37 = .ok (.ifCond .ne 7, 3) := by decide +kernel
theorem dX8_shake_40 : decode cX8_shake 40 = .ok (.aload_n 0, 1) := by decide +kernel
theorem dX8_shake_41 : decode cX8_shake 41 = .ok (.invokevirtual 116, 3) := by decide +kernel
theorem dX8_shake_44 : decode cX8_shake 44 = .ok (.aload_n 0, 1) := by decide +kernel
theorem dX8_shake_45 : decode cX8_shake 45 = .ok (.invokevirtual 159, 3) := by decide +kernel
theorem dX8_shake_48 : decode cX8_shake 48 = .ok (.iinc 3 1, 3) := by decide +kernel
theorem dX8_shake_51 : decode cX8_shake 51 = .ok (.goto (-28), 3) := by decide +kernel
theorem dX8_shake_54 : decode cX8_shake 54 = .ok (.iload_n 3, 1) := by decide +kernel
theorem dX8_shake_55 : decode cX8_shake 55 = .ok (.ireturn, 1) := by decide +kernel
theorem dX8_undo_0 : decode cX8_undo 0 = .ok (.aload_n 0, 1) := by decide +kernel
theorem dX8_undo_1 : decode cX8_undo 1 = .ok (.getfield 24, 3) := by decide +kernel
theorem dX8_undo_4 : decode cX8_undo 4 = .ok (.invokevirtual 167, 3) := by decide +kernel
theorem dX8_undo_7 : decode cX8_undo 7 = .ok (.astore_n 1, 1) := by decide +kernel
theorem dX8_undo_8 : decode cX8_undo 8 = .ok (.aload_n 1, 1) := by decide +kernel
theorem dX8_undo_9 : decode cX8_undo 9 = .ok (.ifnonnull 6, 3) := by decide +kernel
theorem dX8_undo_12 : decode cX8_undo 12 = .ok (.bipush (-2), 2) := by decide +kernel
theorem dX8_undo_14 : decode cX8_undo 14 = .ok (.ireturn, 1) := by decide +kernel
theorem dX8_undo_15 : decode cX8_undo 15 = .ok (.iconst 0, 1) := by decide +kernel
theorem dX8_undo_16 : decode cX8_undo 16 = .ok (.istore_n 2, 1) := by decide +kernel
theorem dX8_undo_17 : decode cX8_undo 17 = .ok (.iload_n 2, 1) := by decide +kernel
theorem dX8_undo_18 : decode cX8_undo 18 = .ok (.bipush 8, 2) := by decide +kernel
theorem dX8_undo_20 : decode cX8_undo 20 = .ok (.if_icmp .ge 23, 3) := by decide +kernel
theorem dX8_undo_23 : decode cX8_undo 23 = .ok (.aload_n 0, 1) := by decide +kernel
theorem dX8_undo_24 : decode cX8_undo 24 = .ok (.getfield 17, 3) := by decide +kernel
theorem dX8_undo_27 : decode cX8_undo 27 = .ok (.iload_n 2, 1) := by decide +kernel
theorem dX8_undo_28 : decode cX8_undo 28 = .ok (.aaload, 1) := by decide +kernel
theorem dX8_undo_29 : decode cX8_undo 29 = .ok (.aload_n 1, 1) := by decide +kernel
theorem dX8_undo_30 : decode cX8_undo 30 = .ok (.iload_n 2, 1) := by decide +kernel
theorem dX8_undo_31 : decode cX8_undo 31 = .ok (.bipush 25, 2) := by decide +kernel
theorem dX8_undo_33 : decode cX8_undo 33 = .ok (.imul, 1) := by decide +kernel
theorem dX8_undo_34 : decode cX8_undo 34 = .ok (.invokevirtual 171, 3) := by decide +kernel
theorem dX8_undo_37 : decode cX8_undo 37 = .ok (.iinc 2 1, 3) := by decide +kernel
theorem dX8_undo_40 : decode cX8_undo 40 = .ok (.goto (-23), 3) := by decide +kernel
theorem dX8_undo_43 : decode cX8_undo 43 = .ok (.aload_n 0, 1) := by decide +kernel
theorem dX8_undo_44 : decode cX8_undo 44 = .ok (.aload_n 1, 1) := by decide +kernel
theorem dX8_undo_45 : decode cX8_undo 45 = .ok (.sipush 200, 3) := by decide +kernel
theorem dX8_undo_48 : decode cX8_undo 48 = .ok (.iaload, 1) := by decide +kernel
theorem dX8_undo_49 : decode cX8_undo 49 = .ok (.putfield 67, 3) := by decide +kernel
theorem dX8_undo_52 : decode cX8_undo 52 = .ok (.iconst 1, 1) := by decide +kernel
theorem dX8_undo_53 : decode cX8_undo 53 = .ok (.ireturn, 1) := by decide +kernel
theorem dX8_chance_0 : decode cX8_chance 0 = .ok (.aload_n 0, 1) := by decide +kernel
theorem dX8_chance_1 : decode cX8_chance 1 = .ok (.iload_n 1, 1) := by decide +kernel
theorem dX8_chance_2 : decode cX8_chance 2 = .ok (.invokevirtual 101, 3) := by decide +kernel
theorem dX8_chance_5 : decode cX8_chance 5 = .ok (.astore 4, 2) := by decide +kernel
theorem dX8_chance_7 : decode cX8_chance 7 = .ok (.aload 4, 2) := by decide +kernel
theorem dX8_chance_9 : decode cX8_chance 9 = .ok (.ifnull 27, 3) := by decide +kernel
theorem dX8_chance_12 : decode cX8_chance 12 = .ok (.iload_n 2, 1) := by decide +kernel
theorem dX8_chance_13 : decode cX8_chance 13 = .ok (.ifCond .lt 23, 3) := by decide +kernel
theorem dX8_chance_16 : decode cX8_chance 16 = .ok (.iload_n 2, 1) := by decide +kernel
theorem dX8_chance_17 : decode cX8_chance 17 = .ok (.bipush 12, 2) := by decide +kernel
theorem dX8_chance_19 : decode cX8_chance 19 = .ok (.if_icmp .gt 17, 3) := by decide +kernel
theorem dX8_chance_22 : decode cX8_chance 22 = .ok (.iload_n 3, 1) := by decide +kernel
theorem dX8_chance_23 : decode cX8_chance 23 = .ok (.ifCond .lt 13, 3) := by decide +kernel
theorem dX8_chance_26 : decode cX8_chance 26 = .ok (.aload 4, 2) := by decide +kernel
theorem dX8_chance_28 : decode cX8_chance 28 = .ok (.iload_n 2, 1) := by decide +kernel
theorem dX8_chance_29 : decode cX8_chance 29 = .ok (.iload_n 3, 1) := by decide +kernel
theorem dX8_chance_30 : decode cX8_chance 30 = .ok (.invokevirtual 175, 3) := by decide +kernel
theorem dX8_chance_33 : decode cX8_chance 33 = .ok (.ifCond .ne 5, 3) := by decide +kernel
theorem dX8_chance_36 : decode cX8_chance 36 = .ok (.iconst (-1), 1) := by decide +kernel
theorem dX8_chance_37 : decode cX8_chance 37 = .ok (.ireturn, 1) := by decide +kernel
theorem dX8_chance_38 : decode cX8_chance 38 = .ok (.iload_n 2, 1) := by decide +kernel
theorem dX8_chance_39 : decode cX8_chance 39 = .ok (.ifCond .le 14, 3) := by decide +kernel
theorem dX8_chance_42 : decode cX8_chance 42 = .ok (.aload 4, 2) := by decide +kernel
theorem dX8_chance_44 : decode cX8_chance 44 = .ok (.invokevirtual 129, 3) := by decide +kernel
theorem dX8_chance_47 : decode cX8_chance 47 = .ok (.ifCond .ne 6, 3) := by decide +kernel
theorem dX8_chance_50 : decode cX8_chance 50 = .ok (.bipush (-2), 2) := by decide +kernel
theorem dX8_chance_52 : decode cX8_chance 52 = .ok (.ireturn, 1) := by decide +kernel
theorem dX8_chance_53 : decode cX8_chance 53 = .ok (.aload_n 0, 1) := by decide +kernel
theorem dX8_chance_54 : decode cX8_chance 54 = .ok (.getfield 38, 3) := by decide +kernel
theorem dX8_chance_57 : decode cX8_chance 57 = .ok (.aload 4, 2) := by decide +kernel
theorem dX8_chance_59 : decode cX8_chance 59 = .ok (.iload_n 2, 1) := by decide +kernel
theorem dX8_chance_60 : decode cX8_chance 60 = .ok (.iload_n 3, 1) := by decide +kernel
theorem dX8_chance_61 : decode cX8_chance 61 = .ok (.invokevirtual 178, 3) := by decide +kernel
theorem dX8_chance_64 : decode cX8_chance 64 = .ok (.ifCond .ne 6, 3) := by decide +kernel
theorem dX8_chance_67 : decode cX8_chance 67 = .ok (.bipush (-6), 2) := by decide +kernel
theorem dX8_chance_69 : decode cX8_chance 69 = .ok (.ireturn, 1) := by decide +kernel
theorem dX8_chance_70 : decode cX8_chance 70 = .ok (.aload_n 0, 1) := by decide +kernel
theorem dX8_chance_71 : decode cX8_chance 71 = .ok (.getfield 59, 3) := by decide +kernel
theorem dX8_chance_74 : decode cX8_chance 74 = .ok (.lconst 0, 1) := by decide +kernel
theorem dX8_chance_75 : decode cX8_chance 75 = .ok (.aload_n 0, 1) := by decide +kernel
theorem dX8_chance_76 : decode cX8_chance 76 = .ok (.getfield 38, 3) := by decide +kernel
theorem dX8_chance_79 : decode cX8_chance 79 = .ok (.getfield 182, 3) := by decide +kernel
theorem dX8_chance_82 : decode cX8_chance 82 = .ok (.aload_n 0, 1) := by decide +kernel
theorem dX8_chance_83 : decode cX8_chance 83 = .ok (.getfield 38, 3) := by decide +kernel
theorem dX8_chance_86 : decode cX8_chance 86 = .ok (.getfield 186, 3) := by decide +kernel
theorem dX8_chance_89 : decode cX8_chance 89 = .ok (.invokevirtual 189, 3) := by decide +kernel
theorem dX8_chance_92 : decode cX8_chance 92 = .ok (.iconst 0, 1) := by decide +kernel
theorem dX8_chance_93 : decode cX8_chance 93 = .ok (.ireturn, 1) := by decide +kernel
theorem dX8_times_0 : decode cX8_times 0 = .ok (.aload_n 0, 1) := by decide +kernel
theorem dX8_times_1 : decode cX8_times 1 = .ok (.iload_n 1, 1) := by decide +kernel
theorem dX8_times_2 : decode cX8_times 2 = .ok (.invokevirtual 101, 3) := by decide +kernel
theorem dX8_times_5 : decode cX8_times 5 = .ok (.astore 5, 2) := by decide +kernel
theorem dX8_times_7 : decode cX8_times 7 = .ok (.aload 5, 2) := by decide +kernel
theorem dX8_times_9 : decode cX8_times 9 = .ok (.ifnull 31, 3) := by decide +kernel
theorem dX8_times_12 : decode cX8_times 12 = .ok (.iload_n 2, 1) := by decide +kernel
theorem dX8_times_13 : decode cX8_times 13 = .ok (.invokestatic 192, 3) := by decide +kernel
theorem dX8_times_16 : decode cX8_times 16 = .ok (.ifCond .eq 24, 3) := by decide +kernel
theorem dX8_times_19 : decode cX8_times 19 = .ok (.aload 5, 2) := by decide +kernel
theorem dX8_times_21 : decode cX8_times 21 = .ok (.iload_n 3, 1) := by decide +kernel
theorem dX8_times_22 : decode cX8_times 22 = .ok (.invokevirtual 105, 3) := by decide +kernel
theorem dX8_times_25 : decode cX8_times 25 = .ok (.ifCond .eq 15, 3) := by decide +kernel
theorem dX8_times_28 : decode cX8_times 28 = .ok (.iload 4, 2) := by decide +kernel
theorem dX8_times_30 : decode cX8_times 30 = .ok (.ifCond .lt 10, 3) := by decide +kernel
theorem dX8_times_33 : decode cX8_times 33 = .ok (.iload 4, 2) := by decide +kernel
theorem dX8_times_35 : decode cX8_times 35 = .ok (.bipush 12, 2) := by decide +kernel
theorem dX8_times_37 : decode cX8_times 37 = .ok (.if_icmp .le 5, 3) := by decide +kernel
theorem dX8_times_40 : decode cX8_times 40 = .ok (.iconst (-1), 1) := by decide +kernel
theorem dX8_times_41 : decode cX8_times 41 = .ok (.ireturn, 1) := by decide +kernel
theorem dX8_times_42 : decode cX8_times 42 = .ok (.aload_n 0, 1) := by decide +kernel
theorem dX8_times_43 : decode cX8_times 43 = .ok (.aload 5, 2) := by decide +kernel
theorem dX8_times_45 : decode cX8_times 45 = .ok (.iload_n 2, 1) := by decide +kernel
theorem dX8_times_46 : decode cX8_times 46 = .ok (.iload_n 3, 1) := by decide +kernel
theorem dX8_times_47 : decode cX8_times 47 = .ok (.invokevirtual 195, 3) := by decide +kernel
theorem dX8_times_50 : decode cX8_times 50 = .ok (.istore 6, 2) := by decide +kernel
theorem dX8_times_52 : decode cX8_times 52 = .ok (.iload 6, 2) := by decide +kernel
theorem dX8_times_54 : decode cX8_times 54 = .ok (.ifCond .eq 6, 3) := by decide +kernel
theorem dX8_times_57 : decode cX8_times 57 = .ok (.iload 6, 2) := by decide +kernel
theorem dX8_times_59 : decode cX8_times 59 = .ok (.ireturn, 1) := by decide +kernel
theorem dX8_times_60 : decode cX8_times 60 = .ok (.aload_n 0, 1) := by decide +kernel
theorem dX8_times_61 : decode cX8_times 61 = .ok (.getfield 59, 3) := by decide +kernel
theorem dX8_times_64 : decode cX8_times 64 = .ok (.lconst 0, 1) := by decide +kernel
theorem dX8_times_65 : decode cX8_times 65 = .ok (.aload_n 0, 1) := by decide +kernel
theorem dX8_times_66 : decode cX8_times 66 = .ok (.getfield 52, 3) := by decide +kernel
theorem dX8_times_69 : decode cX8_times 69 = .ok (.getfield 199, 3) := by decide +kernel
theorem dX8_times_72 : decode cX8_times 72 = .ok (.iload 4, 2) := by decide +kernel
theorem dX8_times_74 : decode cX8_times 74 = .ok (.laload, 1) := by decide +kernel
theorem dX8_times_75 : decode cX8_times 75 = .ok (.aload_n 0, 1) := by decide +kernel
theorem dX8_times_76 : decode cX8_times 76 = .ok (.getfield 52, 3) := by decide +kernel
theorem dX8_times_79 : decode cX8_times 79 = .ok (.getfield 202, 3) := by decide +kernel
theorem dX8_times_82 : decode cX8_times 82 = .ok (.invokevirtual 189, 3) := by decide +kernel
theorem dX8_times_85 : decode cX8_times 85 = .ok (.iconst 0, 1) := by decide +kernel
theorem dX8_times_86 : decode cX8_times 86 = .ok (.ireturn, 1) := by decide +kernel
theorem dX8_left_0 : decode cX8_left 0 = .ok (.aload_n 0, 1) := by decide +kernel
theorem dX8_left_1 : decode cX8_left 1 = .ok (.iload_n 1, 1) := by decide +kernel
theorem dX8_left_2 : decode cX8_left 2 = .ok (.invokevirtual 101, 3) := by decide +kernel
theorem dX8_left_5 : decode cX8_left 5 = .ok (.astore 5, 2) := by decide +kernel
theorem dX8_left_7 : decode cX8_left 7 = .ok (.aload 5, 2) := by decide +kernel
theorem dX8_left_9 : decode cX8_left 9 = .ok (.ifnull 32, 3) := by decide +kernel
theorem dX8_left_12 : decode cX8_left 12 = .ok (.iload_n 2, 1) := by decide +kernel
theorem dX8_left_13 : decode cX8_left 13 = .ok (.invokestatic 192, 3) := by decide +kernel
theorem dX8_left_16 : decode cX8_left 16 = .ok (.ifCond .eq 25, 3) := by decide +kernel
theorem dX8_left_19 : decode cX8_left 19 = .ok (.aload 5, 2) := by decide +kernel
theorem dX8_left_21 : decode cX8_left 21 = .ok (.iload_n 3, 1) := by decide +kernel
theorem dX8_left_22 : decode cX8_left 22 = .ok (.invokevirtual 105, 3) := by decide +kernel
theorem dX8_left_25 : decode cX8_left 25 = .ok (.ifCond .eq 16, 3) := by decide +kernel
theorem dX8_left_28 : decode cX8_left 28 = .ok (.iload 4, 2) := by decide +kernel
theorem dX8_left_30 : decode cX8_left 30 = .ok (.ifCond .lt 11, 3) := by decide +kernel
theorem dX8_left_33 : decode cX8_left 33 = .ok (.iload 4, 2) := by decide +kernel
theorem dX8_left_35 : decode cX8_left 35 = .ok (.sipush 400, 3) := by decide +kernel
theorem dX8_left_38 : decode cX8_left 38 = .ok (.if_icmp .le 5, 3) := by decide +kernel
theorem dX8_left_41 : decode cX8_left 41 = .ok (.iconst (-1), 1) := by decide +kernel
theorem dX8_left_42 : decode cX8_left 42 = .ok (.ireturn, 1) := by decide +kernel
theorem dX8_left_43 : decode cX8_left 43 = .ok (.aload_n 0, 1) := by decide +kernel
theorem dX8_left_44 : decode cX8_left 44 = .ok (.aload 5, 2) := by decide +kernel
theorem dX8_left_46 : decode cX8_left 46 = .ok (.iload_n 2, 1) := by decide +kernel
theorem dX8_left_47 : decode cX8_left 47 = .ok (.iload_n 3, 1) := by decide +kernel
theorem dX8_left_48 : decode cX8_left 48 = .ok (.invokevirtual 195, 3) := by decide +kernel
theorem dX8_left_51 : decode cX8_left 51 = .ok (.istore 6, 2) := by decide +kernel
theorem dX8_left_53 : decode cX8_left 53 = .ok (.iload 6, 2) := by decide +kernel
theorem dX8_left_55 : decode cX8_left 55 = .ok (.ifCond .eq 6, 3) := by decide +kernel
theorem dX8_left_58 : decode cX8_left 58 = .ok (.iload 6, 2) := by decide +kernel
theorem dX8_left_60 : decode cX8_left 60 = .ok (.ireturn, 1) := by decide +kernel
theorem dX8_left_61 : decode cX8_left 61 = .ok (.aload_n 0, 1) := by decide +kernel
theorem dX8_left_62 : decode cX8_left 62 = .ok (.getfield 59, 3) := by decide +kernel
theorem dX8_left_65 : decode cX8_left 65 = .ok (.lconst 0, 1) := by decide +kernel
theorem dX8_left_66 : decode cX8_left 66 = .ok (.iload 4, 2) := by decide +kernel
theorem dX8_left_68 : decode cX8_left 68 = .ok (.sipush 200, 3) := by decide +kernel
theorem dX8_left_71 : decode cX8_left 71 = .ok (.if_icmp .le 7, 3) := by decide +kernel
theorem dX8_left_74 : decode cX8_left 74 = .ok (.lconst 0, 1) := by decide +kernel
theorem dX8_left_75 : decode cX8_left 75 = .ok (.goto 13, 3) := by decide +kernel
theorem dX8_left_78 : decode cX8_left 78 = .ok (.aload_n 0, 1) := by decide +kernel
theorem dX8_left_79 : decode cX8_left 79 = .ok (.getfield 52, 3) := by decide +kernel
theorem dX8_left_82 : decode cX8_left 82 = .ok (.getfield 203, 3) := by decide +kernel
theorem dX8_left_85 : decode cX8_left 85 = .ok (.iload 4, 2) := by decide +kernel
theorem dX8_left_87 : decode cX8_left 87 = .ok (.laload, 1) := by decide +kernel
theorem dX8_left_88 : decode cX8_left 88 = .ok (.aload_n 0, 1) := by decide +kernel
theorem dX8_left_89 : decode cX8_left 89 = .ok (.getfield 52, 3) := by decide +kernel
theorem dX8_left_92 : decode cX8_left 92 = .ok (.getfield 202, 3) := by decide +kernel
theorem dX8_left_95 : decode cX8_left 95 = .ok (.invokevirtual 189, 3) := by decide +kernel
theorem dX8_left_98 : decode cX8_left 98 = .ok (.iconst 0, 1) := by decide +kernel
theorem dX8_left_99 : decode cX8_left 99 = .ok (.ireturn, 1) := by decide +kernel
theorem dX8_stuck_0 : decode cX8_stuck 0 = .ok (.aload_n 0, 1) := by decide +kernel
theorem dX8_stuck_1 : decode cX8_stuck 1 = .ok (.iload_n 1, 1) := by decide +kernel
theorem dX8_stuck_2 : decode cX8_stuck 2 = .ok (.invokevirtual 101, 3) := by decide +kernel
theorem dX8_stuck_5 : decode cX8_stuck 5 = .ok (.astore_n 3, 1) := by decide +kernel
theorem dX8_stuck_6 : decode cX8_stuck 6 = .ok (.aload_n 3, 1) := by decide +kernel
theorem dX8_stuck_7 : decode cX8_stuck 7 = .ok (.ifnull 10, 3) := by decide +kernel
theorem dX8_stuck_10 : decode cX8_stuck 10 = .ok (.iload_n 2, 1) := by decide +kernel
theorem dX8_stuck_11 : decode cX8_stuck 11 = .ok (.invokestatic 192, 3) := by decide +kernel
theorem dX8_stuck_14 : decode cX8_stuck 14 = .ok (.ifCond .ne 5, 3) := by decide +kernel
theorem dX8_stuck_17 : decode cX8_stuck 17 = .ok (.iconst (-1), 1) := by decide +kernel
theorem dX8_stuck_18 : decode cX8_stuck 18 = .ok (.ireturn, 1) := by decide +kernel
theorem dX8_stuck_19 : decode cX8_stuck 19 = .ok (.aload_n 0, 1) := by decide +kernel
theorem dX8_stuck_20 : decode cX8_stuck 20 = .ok (.aload_n 3, 1) := by decide +kernel
theorem dX8_stuck_21 : decode cX8_stuck 21 = .ok (.iload_n 2, 1) := by decide +kernel
theorem dX8_stuck_22 : decode cX8_stuck 22 = .ok (.iconst 0, 1) := by decide +kernel
theorem dX8_stuck_23 : decode cX8_stuck 23 = .ok (.invokevirtual 195, 3) := by decide +kernel
theorem dX8_stuck_26 : decode cX8_stuck 26 = .ok (.istore 4, 2) := by decide +kernel
theorem dX8_stuck_28 : decode cX8_stuck 28 = .ok (.iload 4, 2) := by decide +kernel
theorem dX8_stuck_30 : decode cX8_stuck 30 = .ok (.ifCond .eq 6, 3) := by decide +kernel
theorem dX8_stuck_33 : decode cX8_stuck 33 = .ok (.iload 4, 2) := by decide +kernel
theorem dX8_stuck_35 : decode cX8_stuck 35 = .ok (.ireturn, 1) := by decide +kernel
theorem dX8_stuck_36 : decode cX8_stuck 36 = .ok (.aload_n 0, 1) := by decide +kernel
theorem dX8_stuck_37 : decode cX8_stuck 37 = .ok (.getfield 59, 3) := by decide +kernel
theorem dX8_stuck_40 : decode cX8_stuck 40 = .ok (.lconst 0, 1) := by decide +kernel
theorem dX8_stuck_41 : decode cX8_stuck 41 = .ok (.aload_n 0, 1) := by decide +kernel
theorem dX8_stuck_42 : decode cX8_stuck 42 = .ok (.getfield 52, 3) := by decide +kernel
theorem dX8_stuck_45 : decode cX8_stuck 45 = .ok (.getfield 206, 3) := by decide +kernel
theorem dX8_stuck_48 : decode cX8_stuck 48 = .ok (.aload_n 0, 1) := by decide +kernel
theorem dX8_stuck_49 : decode cX8_stuck 49 = .ok (.getfield 52, 3) := by decide +kernel
theorem dX8_stuck_52 : decode cX8_stuck 52 = .ok (.getfield 202, 3) := by decide +kernel
theorem dX8_stuck_55 : decode cX8_stuck 55 = .ok (.invokevirtual 189, 3) := by decide +kernel
theorem dX8_stuck_58 : decode cX8_stuck 58 = .ok (.iconst 0, 1) := by decide +kernel
theorem dX8_stuck_59 : decode cX8_stuck 59 = .ok (.ireturn, 1) := by decide +kernel
theorem dX8_mean_0 : decode cX8_mean 0 = .ok (.aload_n 0, 1) := by decide +kernel
theorem dX8_mean_1 : decode cX8_mean 1 = .ok (.iload_n 1, 1) := by decide +kernel
theorem dX8_mean_2 : decode cX8_mean 2 = .ok (.invokevirtual 101, 3) := by decide +kernel
theorem dX8_mean_5 : decode cX8_mean 5 = .ok (.astore 5, 2) := by decide +kernel
theorem dX8_mean_7 : decode cX8_mean 7 = .ok (.aload 5, 2) := by decide +kernel
theorem dX8_mean_9 : decode cX8_mean 9 = .ok (.ifnull 31, 3) := by decide +kernel
theorem dX8_mean_12 : decode cX8_mean 12 = .ok (.iload_n 2, 1) := by decide +kernel
theorem dX8_mean_13 : decode cX8_mean 13 = .ok (.invokestatic 192, 3) := by decide +kernel
theorem dX8_mean_16 : decode cX8_mean 16 = .ok (.ifCond .eq 24, 3) := by decide +kernel
theorem dX8_mean_19 : decode cX8_mean 19 = .ok (.aload 5, 2) := by decide +kernel
theorem dX8_mean_21 : decode cX8_mean 21 = .ok (.iload_n 3, 1) := by decide +kernel
theorem dX8_mean_22 : decode cX8_mean 22 = .ok (.invokevirtual 105, 3) := by decide +kernel
theorem dX8_mean_25 : decode cX8_mean 25 = .ok (.ifCond .eq 15, 3) := by decide +kernel
theorem dX8_mean_28 : decode cX8_mean 28 = .ok (.iload 4, 2) := by decide +kernel
theorem dX8_mean_30 : decode cX8_mean 30 = .ok (.iconst 1, 1) := by decide +kernel
theorem dX8_mean_31 : decode cX8_mean 31 = .ok (.if_icmp .lt 9, 3) := by decide +kernel
theorem dX8_mean_34 : decode cX8_mean 34 = .ok (.iload 4, 2) := by decide +kernel
theorem dX8_mean_36 : decode cX8_mean 36 = .ok (.iconst 3, 1) := by decide +kernel
theorem dX8_mean_37 : decode cX8_mean 37 = .ok (.if_icmp .le 5, 3) := by decide +kernel
theorem dX8_mean_40 : decode cX8_mean 40 = .ok (.iconst (-1), 1) := by decide +kernel
theorem dX8_mean_41 : decode cX8_mean 41 = .ok (.ireturn, 1) := by decide +kernel
theorem dX8_mean_42 : decode cX8_mean 42 = .ok (.aload_n 0, 1) := by decide +kernel
theorem dX8_mean_43 : decode cX8_mean 43 = .ok (.aload 5, 2) := by decide +kernel
theorem dX8_mean_45 : decode cX8_mean 45 = .ok (.iload_n 2, 1) := by decide +kernel
theorem dX8_mean_46 : decode cX8_mean 46 = .ok (.iload_n 3, 1) := by decide +kernel
theorem dX8_mean_47 : decode cX8_mean 47 = .ok (.invokevirtual 195, 3) := by decide +kernel
theorem dX8_mean_50 : decode cX8_mean 50 = .ok (.istore 6, 2) := by decide +kernel
theorem dX8_mean_52 : decode cX8_mean 52 = .ok (.iload 6, 2) := by decide +kernel
theorem dX8_mean_54 : decode cX8_mean 54 = .ok (.ifCond .eq 6, 3) := by decide +kernel
theorem dX8_mean_57 : decode cX8_mean 57 = .ok (.iload 6, 2) := by decide +kernel
theorem dX8_mean_59 : decode cX8_mean 59 = .ok (.ireturn, 1) := by decide +kernel
theorem dX8_mean_60 : decode cX8_mean 60 = .ok (.aload_n 0, 1) := by decide +kernel
theorem dX8_mean_61 : decode cX8_mean 61 = .ok (.getfield 52, 3) := by decide +kernel
theorem dX8_mean_64 : decode cX8_mean 64 = .ok (.iload 4, 2) := by decide +kernel
theorem dX8_mean_66 : decode cX8_mean 66 = .ok (.invokevirtual 209, 3) := by decide +kernel
theorem dX8_mean_69 : decode cX8_mean 69 = .ok (.aload_n 0, 1) := by decide +kernel
theorem dX8_mean_70 : decode cX8_mean 70 = .ok (.getfield 59, 3) := by decide +kernel
theorem dX8_mean_73 : decode cX8_mean 73 = .ok (.aload_n 0, 1) := by decide +kernel
theorem dX8_mean_74 : decode cX8_mean 74 = .ok (.getfield 52, 3) := by decide +kernel
theorem dX8_mean_77 : decode cX8_mean 77 = .ok (.getfield 212, 3) := by decide +kernel
theorem dX8_mean_80 : decode cX8_mean 80 = .ok (.aload_n 0, 1) := by decide +kernel
theorem dX8_mean_81 : decode cX8_mean 81 = .ok (.getfield 52, 3) := by decide +kernel
theorem dX8_mean_84 : decode cX8_mean 84 = .ok (.getfield 215, 3) := by decide +kernel
theorem dX8_mean_87 : decode cX8_mean 87 = .ok (.aload_n 0, 1) := by decide +kernel
theorem dX8_mean_88 : decode cX8_mean 88 = .ok (.getfield 52, 3) := by decide +kernel
theorem dX8_mean_91 : decode cX8_mean 91 = .ok (.getfield 202, 3) := by decide +kernel
theorem dX8_mean_94 : decode cX8_mean 94 = .ok (.invokevirtual 189, 3) := by decide +kernel
theorem dX8_mean_97 : decode cX8_mean 97 = .ok (.iconst 0, 1) := by decide +kernel
theorem dX8_mean_98 : decode cX8_mean 98 = .ok (.ireturn, 1) := by decide +kernel
theorem dX8_told_0 : decode cX8_told 0 = .ok (.aload_n 0, 1) := by decide +kernel
theorem dX8_told_1 : decode cX8_told 1 = .ok (.iload_n 1, 1) := by decide +kernel
theorem dX8_told_2 : decode cX8_told 2 = .ok (.invokevirtual 101, 3) := by decide +kernel
theorem dX8_told_5 : decode cX8_told 5 = .ok (.astore 6, 2) := by decide +kernel
theorem dX8_told_7 : decode cX8_told 7 = .ok (.aload 6, 2) := by decide +kernel
theorem dX8_told_9 : decode cX8_told 9 = .ok (.ifnull 40, 3) := by decide +kernel
theorem dX8_told_12 : decode cX8_told 12 = .ok (.iload_n 2, 1) := by decide +kernel
theorem dX8_told_13 : decode cX8_told 13 = .ok (.iconst 1, 1) := by decide +kernel
theorem dX8_told_14 : decode cX8_told 14 = .ok (.if_icmp .lt 35, 3) := by decide +kernel
theorem dX8_told_17 : decode cX8_told 17 = .ok (.iload 4, 2) := by decide +kernel
theorem dX8_told_19 : decode cX8_told 19 = .ok (.iload_n 2, 1) := by decide +kernel
theorem dX8_told_20 : decode cX8_told 20 = .ok (.if_icmp .le 29, 3) := by decide +kernel
theorem dX8_told_23 : decode cX8_told 23 = .ok (.iload 4, 2) := by decide +kernel
theorem dX8_told_25 : decode cX8_told 25 = .ok (.bipush 12, 2) := by decide +kernel
theorem dX8_told_27 : decode cX8_told 27 = .ok (.if_icmp .gt 22, 3) := by decide +kernel
theorem dX8_told_30 : decode cX8_told 30 = .ok (.aload 6, 2) := by decide +kernel
theorem dX8_told_32 : decode cX8_told 32 = .ok (.iload_n 3, 1) := by decide +kernel
theorem dX8_told_33 : decode cX8_told 33 = .ok (.invokevirtual 105, 3) := by decide +kernel
theorem dX8_told_36 : decode cX8_told 36 = .ok (.ifCond .eq 13, 3) := by decide +kernel
theorem dX8_told_39 : decode cX8_told 39 = .ok (.aload 6, 2) := by decide +kernel
theorem dX8_told_41 : decode cX8_told 41 = .ok (.iload 5, 2) := by decide +kernel
theorem dX8_told_43 : decode cX8_told 43 = .ok (.invokevirtual 105, 3) := by decide +kernel
theorem dX8_told_46 : decode cX8_told 46 = .ok (.ifCond .ne 5, 3) := by decide +kernel
theorem dX8_told_49 : decode cX8_told 49 = .ok (.iconst (-1), 1) := by decide +kernel
theorem dX8_told_50 : decode cX8_told 50 = .ok (.ireturn, 1) := by decide +kernel
theorem dX8_told_51 : decode cX8_told 51 = .ok (.aload 6, 2) := by decide +kernel
theorem dX8_told_53 : decode cX8_told 53 = .ok (.invokevirtual 136, 3) := by decide +kernel
theorem dX8_told_56 : decode cX8_told 56 = .ok (.ifCond .eq 11, 3) := by decide +kernel
theorem dX8_told_59 : decode cX8_told 59 = .ok (.aload 6, 2) := by decide +kernel
theorem dX8_told_61 : decode cX8_told 61 = .ok (.invokevirtual 129, 3) := by decide +kernel
theorem dX8_told_64 : decode cX8_told 64 = .ok (.ifCond .ne 6, 3) := by decide +kernel
theorem dX8_told_67 : decode cX8_told 67 = .ok (.bipush (-2), 2) := by decide +kernel
theorem dX8_told_69 : decode cX8_told 69 = .ok (.ireturn, 1) := by decide +kernel
theorem dX8_told_70 : decode cX8_told 70 = .ok (.aload_n 0, 1) := by decide +kernel
theorem dX8_told_71 : decode cX8_told 71 = .ok (.getfield 52, 3) := by decide +kernel
theorem dX8_told_74 : decode cX8_told 74 = .ok (.invokevirtual 218, 3) := by decide +kernel
theorem dX8_told_77 : decode cX8_told 77 = .ok (.aload_n 0, 1) := by decide +kernel
theorem dX8_told_78 : decode cX8_told 78 = .ok (.getfield 52, 3) := by decide +kernel
theorem dX8_told_81 : decode cX8_told 81 = .ok (.iload 4, 2) := by decide +kernel
theorem dX8_told_83 : decode cX8_told 83 = .ok (.iload 5, 2) := by decide +kernel
theorem dX8_told_85 : decode cX8_told 85 = .ok (.invokevirtual 221, 3) := by decide +kernel
theorem dX8_told_88 : decode cX8_told 88 = .ok (.aload_n 0, 1) := by decide +kernel
theorem dX8_told_89 : decode cX8_told 89 = .ok (.getfield 52, 3) := by decide +kernel
theorem dX8_told_92 : decode cX8_told 92 = .ok (.aload 6, 2) := by decide +kernel
theorem dX8_told_94 : decode cX8_told 94 = .ok (.iload 4, 2) := by decide +kernel
theorem dX8_told_96 : decode cX8_told 96 = .ok (.invokevirtual 224, 3) := by decide +kernel
theorem dX8_told_99 : decode cX8_told 99 = .ok (.lconst 0, 1) := by decide +kernel
theorem dX8_told_100 : decode cX8_told 100 = .ok (.lcmp, 1) := by decide +kernel
theorem dX8_told_101 : decode cX8_told 101 = .ok (.ifCond .ne 6, 3) := by decide +kernel
theorem dX8_told_104 : decode cX8_told 104 = .ok (.bipush (-2), 2) := by decide +kernel
theorem dX8_told_106 : decode cX8_told 106 = .ok (.ireturn, 1) := by decide +kernel
theorem dX8_told_107 : decode cX8_told 107 = .ok (.aload_n 0, 1) := by decide +kernel
theorem dX8_told_108 : decode cX8_told 108 = .ok (.getfield 52, 3) := by decide +kernel
theorem dX8_told_111 : decode cX8_told 111 = .ok (.aload 6, 2) := by decide +kernel
theorem dX8_told_113 : decode cX8_told 113 = .ok (.iload 4, 2) := by decide +kernel
theorem dX8_told_115 : decode cX8_told 115 = .ok (.invokevirtual 228, 3) := by decide +kernel
theorem dX8_told_118 : decode cX8_told 118 = .ok (.ifCond .ne 6, 3) := by decide +kernel
theorem dX8_told_121 : decode cX8_told 121 = .ok (.bipush (-6), 2) := by decide +kernel
theorem dX8_told_123 : decode cX8_told 123 = .ok (.ireturn, 1) := by decide +kernel
theorem dX8_told_124 : decode cX8_told 124 = .ok (.aload_n 0, 1) := by decide +kernel
theorem dX8_told_125 : decode cX8_told 125 = .ok (.getfield 52, 3) := by decide +kernel
theorem dX8_told_128 : decode cX8_told 128 = .ok (.aload 6, 2) := by decide +kernel
theorem dX8_told_130 : decode cX8_told 130 = .ok (.iload 4, 2) := by decide +kernel
theorem dX8_told_132 : decode cX8_told 132 = .ok (.iload 5, 2) := by decide +kernel
theorem dX8_told_134 : decode cX8_told 134 = .ok (.invokevirtual 232, 3) := by decide +kernel
theorem dX8_told_137 : decode cX8_told 137 = .ok (.aload_n 0, 1) := by decide +kernel
theorem dX8_told_138 : decode cX8_told 138 = .ok (.getfield 52, 3) := by decide +kernel
theorem dX8_told_141 : decode cX8_told 141 = .ok (.invokevirtual 236, 3) := by decide +kernel
theorem dX8_told_144 : decode cX8_told 144 = .ok (.lstore 7, 2) := by decide +kernel
theorem dX8_told_146 : decode cX8_told 146 = .ok (.aload_n 0, 1) := by decide +kernel
theorem dX8_told_147 : decode cX8_told 147 = .ok (.getfield 52, 3) := by decide +kernel
theorem dX8_told_150 : decode cX8_told 150 = .ok (.iload_n 2, 1) := by decide +kernel
theorem dX8_told_151 : decode cX8_told 151 = .ok (.iload_n 3, 1) := by decide +kernel
theorem dX8_told_152 : decode cX8_told 152 = .ok (.invokevirtual 221, 3) := by decide +kernel
theorem dX8_told_155 : decode cX8_told 155 = .ok (.aload_n 0, 1) := by decide +kernel
theorem dX8_told_156 : decode cX8_told 156 = .ok (.getfield 52, 3) := by decide +kernel
theorem dX8_told_159 : decode cX8_told 159 = .ok (.aload 6, 2) := by decide +kernel
theorem dX8_told_161 : decode cX8_told 161 = .ok (.iload 4, 2) := by decide +kernel
theorem dX8_told_163 : decode cX8_told 163 = .ok (.iload 5, 2) := by decide +kernel
theorem dX8_told_165 : decode cX8_told 165 = .ok (.invokevirtual 232, 3) := by decide +kernel
theorem dX8_told_168 : decode cX8_told 168 = .ok (.aload_n 0, 1) := by decide +kernel
theorem dX8_told_169 : decode cX8_told 169 = .ok (.getfield 59, 3) := by decide +kernel
theorem dX8_told_172 : decode cX8_told 172 = .ok (.lconst 0, 1) := by decide +kernel
theorem dX8_told_173 : decode cX8_told 173 = .ok (.aload_n 0, 1) := by decide +kernel
theorem dX8_told_174 : decode cX8_told 174 = .ok (.getfield 52, 3) := by decide +kernel
theorem dX8_told_177 : decode cX8_told 177 = .ok (.invokevirtual 236, 3) := by decide +kernel
theorem dX8_told_180 : decode cX8_told 180 = .ok (.lload 7, 2) := by decide +kernel
theorem dX8_told_182 : decode cX8_told 182 = .ok (.invokevirtual 189, 3) := by decide +kernel
theorem dX8_told_185 : decode cX8_told 185 = .ok (.iconst 0, 1) := by decide +kernel
theorem dX8_told_186 : decode cX8_told 186 = .ok (.ireturn, 1) := by decide +kernel
theorem dX8_share_0 : decode cX8_share 0 = .ok (.aload_n 0, 1) := by decide +kernel
theorem dX8_share_1 : decode cX8_share 1 = .ok (.iload_n 1, 1) := by decide +kernel
theorem dX8_share_2 : decode cX8_share 2 = .ok (.invokevirtual 101, 3) := by decide +kernel
theorem dX8_share_5 : decode cX8_share 5 = .ok (.astore 4, 2) := by decide +kernel
theorem dX8_share_7 : decode cX8_share 7 = .ok (.aload 4, 2) := by decide +kernel
theorem dX8_share_9 : decode cX8_share 9 = .ok (.ifnull 22, 3) := by decide +kernel
theorem dX8_share_12 : decode cX8_share 12 = .ok (.aload 4, 2) := by decide +kernel
theorem dX8_share_14 : decode cX8_share 14 = .ok (.iload_n 2, 1) := by decide +kernel
theorem dX8_share_15 : decode cX8_share 15 = .ok (.invokevirtual 105, 3) := by decide +kernel
theorem dX8_share_18 : decode cX8_share 18 = .ok (.ifCond .eq 13, 3) := by decide +kernel
theorem dX8_share_21 : decode cX8_share 21 = .ok (.iload_n 3, 1) := by decide +kernel
theorem dX8_share_22 : decode cX8_share 22 = .ok (.iconst 1, 1) := by decide +kernel
theorem dX8_share_23 : decode cX8_share 23 = .ok (.if_icmp .lt 8, 3) := by decide +kernel
theorem dX8_share_26 : decode cX8_share 26 = .ok (.iload_n 3, 1) := by decide +kernel
theorem dX8_share_27 : decode cX8_share 27 = .ok (.iconst 4, 1) := by decide +kernel
theorem dX8_share_28 : decode cX8_share 28 = .ok (.if_icmp .le 5, 3) := by decide +kernel
theorem dX8_share_31 : decode cX8_share 31 = .ok (.iconst (-1), 1) := by decide +kernel
theorem dX8_share_32 : decode cX8_share 32 = .ok (.ireturn, 1) := by decide +kernel
theorem dX8_share_33 : decode cX8_share 33 = .ok (.aload 4, 2) := by decide +kernel
theorem dX8_share_35 : decode cX8_share 35 = .ok (.iconst 0, 1) := by decide +kernel
theorem dX8_share_36 : decode cX8_share 36 = .ok (.invokevirtual 140, 3) := by decide +kernel
theorem dX8_share_39 : decode cX8_share 39 = .ok (.istore 5, 2) := by decide +kernel
theorem dX8_share_41 : decode cX8_share 41 = .ok (.aload 4, 2) := by decide +kernel
theorem dX8_share_43 : decode cX8_share 43 = .ok (.invokevirtual 144, 3) := by decide +kernel
theorem dX8_share_46 : decode cX8_share 46 = .ok (.ifCond .eq 16, 3) := by decide +kernel
theorem dX8_share_49 : decode cX8_share 49 = .ok (.iload 5, 2) := by decide +kernel
theorem dX8_share_51 : decode cX8_share 51 = .ok (.ifCond .le 11, 3) := by decide +kernel
theorem dX8_share_54 : decode cX8_share 54 = .ok (.aload 4, 2) := by decide +kernel
theorem dX8_share_56 : decode cX8_share 56 = .ok (.invokevirtual 129, 3) := by decide +kernel
theorem dX8_share_59 : decode cX8_share 59 = .ok (.ifCond .ne 6, 3) := by decide +kernel
theorem dX8_share_62 : decode cX8_share 62 = .ok (.bipush (-2), 2) := by decide +kernel
theorem dX8_share_64 : decode cX8_share 64 = .ok (.ireturn, 1) := by decide +kernel
theorem dX8_share_65 : decode cX8_share 65 = .ok (.lconst 1, 1) := by decide +kernel
theorem dX8_share_66 : decode cX8_share 66 = .ok (.lstore 6, 2) := by decide +kernel
theorem dX8_share_68 : decode cX8_share 68 = .ok (.lconst 1, 1) := by decide +kernel
theorem dX8_share_69 : decode cX8_share 69 = .ok (.lstore 8, 2) := by decide +kernel
theorem dX8_share_71 : decode cX8_share 71 = .ok (.iconst 0, 1) := by decide +kernel
theorem dX8_share_72 : decode cX8_share 72 = .ok (.istore 10, 2) := by decide +kernel
theorem dX8_share_74 : decode cX8_share 74 = .ok (.iload 10, 2) := by decide +kernel
theorem dX8_share_76 : decode cX8_share 76 = .ok (.iload_n 3, 1) := by decide +kernel
theorem dX8_share_77 : decode cX8_share 77 = .ok (.if_icmp .ge 45, 3) := by decide +kernel
theorem dX8_share_80 : decode cX8_share 80 = .ok (.lload 6, 2) := by decide +kernel
theorem dX8_share_82 : decode cX8_share 82 = .ok (.aload 4, 2) := by decide +kernel
theorem dX8_share_84 : decode cX8_share 84 = .ok (.getfield 119, 3) := by decide +kernel
theorem dX8_share_87 : decode cX8_share 87 = .ok (.iload_n 2, 1) := by decide +kernel
theorem dX8_share_88 : decode cX8_share 88 = .ok (.iaload, 1) := by decide +kernel
theorem dX8_share_89 : decode cX8_share 89 = .ok (.iload 10, 2) := by decide +kernel
theorem dX8_share_91 : decode cX8_share 91 = .ok (.iload 5, 2) := by decide +kernel
theorem dX8_share_93 : decode cX8_share 93 = .ok (.imul, 1) := by decide +kernel
theorem dX8_share_94 : decode cX8_share 94 = .ok (.iadd, 1) := by decide +kernel
theorem dX8_share_95 : decode cX8_share 95 = .ok (.i2l, 1) := by decide +kernel
theorem dX8_share_96 : decode cX8_share 96 = .ok (.lmul, 1) := by decide +kernel
theorem dX8_share_97 : decode cX8_share 97 = .ok (.lstore 6, 2) := by decide +kernel
theorem dX8_share_99 : decode cX8_share 99 = .ok (.lload 8, 2) := by decide +kernel
theorem dX8_share_101 : decode cX8_share 101 = .ok (.aload 4, 2) := by decide +kernel
theorem dX8_share_103 : decode cX8_share 103 = .ok (.invokevirtual 129, 3) := by decide +kernel
theorem dX8_share_106 : decode cX8_share 106 = .ok (.iload 10, 2) := by decide +kernel
theorem dX8_share_108 : decode cX8_share 108 = .ok (.iload 5, 2) := by decide +kernel
theorem dX8_share_110 : decode cX8_share 110 = .ok (.imul, 1) := by decide +kernel
theorem dX8_share_111 : decode cX8_share 111 = .ok (.iadd, 1) := by decide +kernel
theorem dX8_share_112 : decode cX8_share 112 = .ok (.i2l, 1) := by decide +kernel
theorem dX8_share_113 : decode cX8_share 113 = .ok (.lmul, 1) := by decide +kernel
theorem dX8_share_114 : decode cX8_share 114 = .ok (.lstore 8, 2) := by decide +kernel
theorem dX8_share_116 : decode cX8_share 116 = .ok (.iinc 10 1, 3) := by decide +kernel
theorem dX8_share_119 : decode cX8_share 119 = .ok (.goto (-45), 3) := by decide +kernel
theorem dX8_share_122 : decode cX8_share 122 = .ok (.aload_n 0, 1) := by decide +kernel
theorem dX8_share_123 : decode cX8_share 123 = .ok (.getfield 59, 3) := by decide +kernel
theorem dX8_share_126 : decode cX8_share 126 = .ok (.lconst 0, 1) := by decide +kernel
theorem dX8_share_127 : decode cX8_share 127 = .ok (.lload 6, 2) := by decide +kernel
theorem dX8_share_129 : decode cX8_share 129 = .ok (.lload 8, 2) := by decide +kernel
theorem dX8_share_131 : decode cX8_share 131 = .ok (.invokevirtual 189, 3) := by decide +kernel
theorem dX8_share_134 : decode cX8_share 134 = .ok (.iconst 0, 1) := by decide +kernel
theorem dX8_share_135 : decode cX8_share 135 = .ok (.ireturn, 1) := by decide +kernel
theorem dX8_free_0 : decode cX8_free 0 = .ok (.aload_n 0, 1) := by decide +kernel
theorem dX8_free_1 : decode cX8_free 1 = .ok (.iload_n 1, 1) := by decide +kernel
theorem dX8_free_2 : decode cX8_free 2 = .ok (.invokevirtual 101, 3) := by decide +kernel
theorem dX8_free_5 : decode cX8_free 5 = .ok (.astore_n 3, 1) := by decide +kernel
theorem dX8_free_6 : decode cX8_free 6 = .ok (.aload_n 3, 1) := by decide +kernel
theorem dX8_free_7 : decode cX8_free 7 = .ok (.ifnull 13, 3) := by decide +kernel
theorem dX8_free_10 : decode cX8_free 10 = .ok (.iload_n 2, 1) := by decide +kernel
theorem dX8_free_11 : decode cX8_free 11 = .ok (.iconst 1, 1) := by decide +kernel
theorem dX8_free_12 : decode cX8_free 12 = .ok (.if_icmp .lt 8, 3) := by decide +kernel
theorem dX8_free_15 : decode cX8_free 15 = .ok (.iload_n 2, 1) := by decide +kernel
theorem dX8_free_16 : decode cX8_free 16 = .ok (.iconst 5, 1) := by decide +kernel
theorem dX8_free_17 : decode cX8_free 17 = .ok (.if_icmp .le 5, 3) := by decide +kernel
theorem dX8_free_20 : decode cX8_free 20 = .ok (.iconst (-1), 1) := by decide +kernel
theorem dX8_free_21 : decode cX8_free 21 = .ok (.ireturn, 1) := by decide +kernel
theorem dX8_free_22 : decode cX8_free 22 = .ok (.aload_n 3, 1) := by decide +kernel
theorem dX8_free_23 : decode cX8_free 23 = .ok (.invokevirtual 129, 3) := by decide +kernel
theorem dX8_free_26 : decode cX8_free 26 = .ok (.ifCond .ne 6, 3) := by decide +kernel
theorem dX8_free_29 : decode cX8_free 29 = .ok (.bipush (-2), 2) := by decide +kernel
theorem dX8_free_31 : decode cX8_free 31 = .ok (.ireturn, 1) := by decide +kernel
theorem dX8_free_32 : decode cX8_free 32 = .ok (.aload_n 0, 1) := by decide +kernel
theorem dX8_free_33 : decode cX8_free 33 = .ok (.getfield 45, 3) := by decide +kernel
theorem dX8_free_36 : decode cX8_free 36 = .ok (.aload_n 3, 1) := by decide +kernel
theorem dX8_free_37 : decode cX8_free 37 = .ok (.iload_n 2, 1) := by decide +kernel
theorem dX8_free_38 : decode cX8_free 38 = .ok (.aload_n 0, 1) := by decide +kernel
theorem dX8_free_39 : decode cX8_free 39 = .ok (.getfield 38, 3) := by decide +kernel
theorem dX8_free_42 : decode cX8_free 42 = .ok (.invokevirtual 240, 3) := by decide +kernel
theorem dX8_free_45 : decode cX8_free 45 = .ok (.ifCond .eq 7, 3) := by decide +kernel
theorem dX8_free_48 : decode cX8_free 48 = .ok (.iconst 1, 1) := by decide +kernel
theorem dX8_free_49 : decode cX8_free 49 = .ok (.goto 4, 3) := by decide +kernel
theorem dX8_free_52 : decode cX8_free 52 = .ok (.iconst 0, 1) := by decide +kernel
theorem dX8_free_53 : decode cX8_free 53 = .ok (.ireturn, 1) := by decide +kernel
theorem dX8_part_0 : decode cX8_part 0 = .ok (.iload_n 1, 1) := by decide +kernel
theorem dX8_part_1 : decode cX8_part 1 = .ok (.tableswitch 51 0 2 #[27, 35, 43], 27) := by decide +kernel
theorem dX8_part_28 : decode cX8_part 28 = .ok (.aload_n 0, 1) := by decide +kernel
theorem dX8_part_29 : decode cX8_part 29 = .ok (.getfield 59, 3) := by decide +kernel
theorem dX8_part_32 : decode cX8_part 32 = .ok (.getfield 244, 3) := by decide +kernel
theorem dX8_part_35 : decode cX8_part 35 = .ok (.lreturn, 1) := by decide +kernel
theorem dX8_part_36 : decode cX8_part 36 = .ok (.aload_n 0, 1) := by decide +kernel
theorem dX8_part_37 : decode cX8_part 37 = .ok (.getfield 59, 3) := by decide +kernel
theorem dX8_part_40 : decode cX8_part 40 = .ok (.getfield 247, 3) := by decide +kernel
theorem dX8_part_43 : decode cX8_part 43 = .ok (.lreturn, 1) := by decide +kernel
theorem dX8_part_44 : decode cX8_part 44 = .ok (.aload_n 0, 1) := by decide +kernel
theorem dX8_part_45 : decode cX8_part 45 = .ok (.getfield 59, 3) := by decide +kernel
theorem dX8_part_48 : decode cX8_part 48 = .ok (.getfield 248, 3) := by decide +kernel
theorem dX8_part_51 : decode cX8_part 51 = .ok (.lreturn, 1) := by decide +kernel
theorem dX8_part_52 : decode cX8_part 52 = .ok (.ldc2_w 249, 3) := by decide +kernel
theorem dX8_part_55 : decode cX8_part 55 = .ok (.lreturn, 1) := by decide +kernel
theorem dX8_count_0 : decode cX8_count 0 = .ok (.iload_n 1, 1) := by decide +kernel
theorem dX8_count_1 : decode cX8_count 1 = .ok (.tableswitch 54 0 3 #[31, 36, 44, 49], 31) := by decide +kernel
theorem dX8_count_32 : decode cX8_count 32 = .ok (.aload_n 0, 1) := by decide +kernel
theorem dX8_count_33 : decode cX8_count 33 = .ok (.getfield 63, 3) := by decide +kernel
theorem dX8_count_36 : decode cX8_count 36 = .ok (.ireturn, 1) := by decide +kernel
theorem dX8_count_37 : decode cX8_count 37 = .ok (.aload_n 0, 1) := by decide +kernel
theorem dX8_count_38 : decode cX8_count 38 = .ok (.getfield 24, 3) := by decide +kernel
theorem dX8_count_41 : decode cX8_count 41 = .ok (.getfield 251, 3) := by decide +kernel
theorem dX8_count_44 : decode cX8_count 44 = .ok (.ireturn, 1) := by decide +kernel
theorem dX8_count_45 : decode cX8_count 45 = .ok (.aload_n 0, 1) := by decide +kernel
theorem dX8_count_46 : decode cX8_count 46 = .ok (.invokevirtual 252, 3) := by decide +kernel
theorem dX8_count_49 : decode cX8_count 49 = .ok (.ireturn, 1) := by decide +kernel
theorem dX8_count_50 : decode cX8_count 50 = .ok (.aload_n 0, 1) := by decide +kernel
theorem dX8_count_51 : decode cX8_count 51 = .ok (.getfield 67, 3) := by decide +kernel
theorem dX8_count_54 : decode cX8_count 54 = .ok (.ireturn, 1) := by decide +kernel
theorem dX8_count_55 : decode cX8_count 55 = .ok (.iconst (-1), 1) := by decide +kernel
theorem dX8_count_56 : decode cX8_count 56 = .ok (.ireturn, 1) := by decide +kernel
theorem dX8_sheetAt_0 : decode cX8_sheetAt 0 = .ok (.iload_n 1, 1) := by decide +kernel
theorem dX8_sheetAt_1 : decode cX8_sheetAt 1 = .ok (.ifCond .lt 9, 3) := by decide +kernel
theorem dX8_sheetAt_4 : decode cX8_sheetAt 4 = .ok (.iload_n 1, 1) := by decide +kernel
theorem dX8_sheetAt_5 : decode cX8_sheetAt 5 = .ok (.bipush 6, 2) := by decide +kernel
theorem dX8_sheetAt_7 : decode cX8_sheetAt 7 = .ok (.if_icmp .lt 7, 3) := by decide +kernel
theorem dX8_sheetAt_10 : decode cX8_sheetAt 10 = .ok (.aconst_null, 1) := by decide +kernel
theorem dX8_sheetAt_11 : decode cX8_sheetAt 11 = .ok (.goto 9, 3) := by decide +kernel
theorem dX8_sheetAt_14 : decode cX8_sheetAt 14 = .ok (.aload_n 0, 1) := by decide +kernel
theorem dX8_sheetAt_15 : decode cX8_sheetAt 15 = .ok (.getfield 11, 3) := by decide +kernel
theorem dX8_sheetAt_18 : decode cX8_sheetAt 18 = .ok (.iload_n 1, 1) := by decide +kernel
theorem dX8_sheetAt_19 : decode cX8_sheetAt 19 = .ok (.aaload, 1) := by decide +kernel
theorem dX8_sheetAt_20 : decode cX8_sheetAt 20 = .ok (.areturn, 1) := by decide +kernel
theorem dX8_urnAt_0 : decode cX8_urnAt 0 = .ok (.iload_n 1, 1) := by decide +kernel
theorem dX8_urnAt_1 : decode cX8_urnAt 1 = .ok (.ifCond .lt 11, 3) := by decide +kernel
theorem dX8_urnAt_4 : decode cX8_urnAt 4 = .ok (.iload_n 1, 1) := by decide +kernel
theorem dX8_urnAt_5 : decode cX8_urnAt 5 = .ok (.aload_n 0, 1) := by decide +kernel
theorem dX8_urnAt_6 : decode cX8_urnAt 6 = .ok (.getfield 63, 3) := by decide +kernel
theorem dX8_urnAt_9 : decode cX8_urnAt 9 = .ok (.if_icmp .lt 7, 3) := by decide +kernel
theorem dX8_urnAt_12 : decode cX8_urnAt 12 = .ok (.aconst_null, 1) := by decide +kernel
theorem dX8_urnAt_13 : decode cX8_urnAt 13 = .ok (.goto 9, 3) := by decide +kernel
theorem dX8_urnAt_16 : decode cX8_urnAt 16 = .ok (.aload_n 0, 1) := by decide +kernel
theorem dX8_urnAt_17 : decode cX8_urnAt 17 = .ok (.getfield 17, 3) := by decide +kernel
theorem dX8_urnAt_20 : decode cX8_urnAt 20 = .ok (.iload_n 1, 1) := by decide +kernel
theorem dX8_urnAt_21 : decode cX8_urnAt 21 = .ok (.aaload, 1) := by decide +kernel
theorem dX8_urnAt_22 : decode cX8_urnAt 22 = .ok (.areturn, 1) := by decide +kernel
theorem dX8_areDraws_0 : decode cX8_areDraws 0 = .ok (.iload_n 0, 1) := by decide +kernel
theorem dX8_areDraws_1 : decode cX8_areDraws 1 = .ok (.ifCond .lt 13, 3) := by decide +kernel
theorem dX8_areDraws_4 : decode cX8_areDraws 4 = .ok (.iload_n 0, 1) := by decide +kernel
theorem dX8_areDraws_5 : decode cX8_areDraws 5 = .ok (.bipush 12, 2) := by decide +kernel
theorem dX8_areDraws_7 : decode cX8_areDraws 7 = .ok (.if_icmp .gt 7, 3) := by decide +kernel
theorem dX8_areDraws_10 : decode cX8_areDraws 10 = .ok (.iconst 1, 1) := by decide +kernel
theorem dX8_areDraws_11 : decode cX8_areDraws 11 = .ok (.goto 4, 3) := by decide +kernel
theorem dX8_areDraws_14 : decode cX8_areDraws 14 = .ok (.iconst 0, 1) := by decide +kernel
theorem dX8_areDraws_15 : decode cX8_areDraws 15 = .ok (.ireturn, 1) := by decide +kernel
theorem dX8_drawsInAll_0 : decode cX8_drawsInAll 0 = .ok (.iconst 0, 1) := by decide +kernel
theorem dX8_drawsInAll_1 : decode cX8_drawsInAll 1 = .ok (.istore_n 1, 1) := by decide +kernel
theorem dX8_drawsInAll_2 : decode cX8_drawsInAll 2 = .ok (.iconst 0, 1) := by decide +kernel
theorem dX8_drawsInAll_3 : decode cX8_drawsInAll 3 = .ok (.istore_n 2, 1) := by decide +kernel
theorem dX8_drawsInAll_4 : decode cX8_drawsInAll 4 = .ok (.iload_n 2, 1) := by decide +kernel
theorem dX8_drawsInAll_5 : decode cX8_drawsInAll 5 = .ok (.bipush 8, 2) := by decide +kernel
theorem dX8_drawsInAll_7 : decode cX8_drawsInAll 7 = .ok (.if_icmp .ge 21, 3) := by decide +kernel
theorem dX8_drawsInAll_10 : decode cX8_drawsInAll 10 = .ok (.iload_n 1, 1) := by decide +kernel
theorem dX8_drawsInAll_11 : decode cX8_drawsInAll 11 = .ok (.aload_n 0, 1) := by decide +kernel
theorem dX8_drawsInAll_12 : decode cX8_drawsInAll 12 = .ok (.getfield 17, 3) := by decide +kernel
theorem dX8_drawsInAll_15 : decode cX8_drawsInAll 15 = .ok (.iload_n 2, 1) := by decide +kernel
theorem dX8_drawsInAll_16 : decode cX8_drawsInAll 16 = .ok (.aaload, 1) := by decide +kernel
theorem dX8_drawsInAll_17 : decode cX8_drawsInAll 17 = .ok (.getfield 133, 3) := by decide +kernel
theorem dX8_drawsInAll_20 : decode cX8_drawsInAll 20 = .ok (.iadd, 1) := by decide +kernel
theorem dX8_drawsInAll_21 : decode cX8_drawsInAll 21 = .ok (.istore_n 1, 1) := by decide +kernel
theorem dX8_drawsInAll_22 : decode cX8_drawsInAll 22 = .ok (.iinc 2 1, 3) := by decide +kernel
theorem dX8_drawsInAll_25 : decode cX8_drawsInAll 25 = .ok (.goto (-21), 3) := by decide +kernel
theorem dX8_drawsInAll_28 : decode cX8_drawsInAll 28 = .ok (.iload_n 1, 1) := by decide +kernel
theorem dX8_drawsInAll_29 : decode cX8_drawsInAll 29 = .ok (.ireturn, 1) := by decide +kernel
theorem dX8_keepAct_0 : decode cX8_keepAct 0 = .ok (.aload_n 0, 1) := by decide +kernel
theorem dX8_keepAct_1 : decode cX8_keepAct 1 = .ok (.getfield 24, 3) := by decide +kernel
theorem dX8_keepAct_4 : decode cX8_keepAct 4 = .ok (.invokevirtual 255, 3) := by decide +kernel
theorem dX8_keepAct_7 : decode cX8_keepAct 7 = .ok (.astore_n 1, 1) := by decide +kernel
theorem dX8_keepAct_8 : decode cX8_keepAct 8 = .ok (.iconst 0, 1) := by decide +kernel
theorem dX8_keepAct_9 : decode cX8_keepAct 9 = .ok (.istore_n 2, 1) := by decide +kernel
theorem dX8_keepAct_10 : decode cX8_keepAct 10 = .ok (.iload_n 2, 1) := by decide +kernel
theorem dX8_keepAct_11 : decode cX8_keepAct 11 = .ok (.bipush 8, 2) := by decide +kernel
theorem dX8_keepAct_13 : decode cX8_keepAct 13 = .ok (.if_icmp .ge 23, 3) := by decide +kernel
theorem dX8_keepAct_16 : decode cX8_keepAct 16 = .ok (.aload_n 0, 1) := by decide +kernel
theorem dX8_keepAct_17 : decode cX8_keepAct 17 = .ok (.getfield 17, 3) := by decide +kernel
theorem dX8_keepAct_20 : decode cX8_keepAct 20 = .ok (.iload_n 2, 1) := by decide +kernel
theorem dX8_keepAct_21 : decode cX8_keepAct 21 = .ok (.aaload, 1) := by decide +kernel
theorem dX8_keepAct_22 : decode cX8_keepAct 22 = .ok (.aload_n 1, 1) := by decide +kernel
theorem dX8_keepAct_23 : decode cX8_keepAct 23 = .ok (.iload_n 2, 1) := by decide +kernel
theorem dX8_keepAct_24 : decode cX8_keepAct 24 = .ok (.bipush 25, 2) := by decide +kernel
theorem dX8_keepAct_26 : decode cX8_keepAct 26 = .ok (.imul, 1) := by decide +kernel
theorem dX8_keepAct_27 : decode cX8_keepAct 27 = .ok (.invokevirtual 258, 3) := by decide +kernel
theorem dX8_keepAct_30 : decode cX8_keepAct 30 = .ok (.iinc 2 1, 3) := by decide +kernel
theorem dX8_keepAct_33 : decode cX8_keepAct 33 = .ok (.goto (-23), 3) := by decide +kernel
theorem dX8_keepAct_36 : decode cX8_keepAct 36 = .ok (.aload_n 1, 1) := by decide +kernel
theorem dX8_keepAct_37 : decode cX8_keepAct 37 = .ok (.sipush 200, 3) := by decide +kernel
theorem dX8_keepAct_40 : decode cX8_keepAct 40 = .ok (.aload_n 0, 1) := by decide +kernel
theorem dX8_keepAct_41 : decode cX8_keepAct 41 = .ok (.getfield 67, 3) := by decide +kernel
theorem dX8_keepAct_44 : decode cX8_keepAct 44 = .ok (.iastore, 1) := by decide +kernel
theorem dX8_keepAct_45 : decode cX8_keepAct 45 = .ok (.return_, 1) := by decide +kernel
theorem dX8_findPath_0 : decode cX8_findPath 0 = .ok (.iload_n 1, 1) := by decide +kernel
theorem dX8_findPath_1 : decode cX8_findPath 1 = .ok (.istore_n 2, 1) := by decide +kernel
theorem dX8_findPath_2 : decode cX8_findPath 2 = .ok (.aload_n 0, 1) := by decide +kernel
theorem dX8_findPath_3 : decode cX8_findPath 3 = .ok (.getfield 31, 3) := by decide +kernel
theorem dX8_findPath_6 : decode cX8_findPath 6 = .ok (.iconst 0, 1) := by decide +kernel
theorem dX8_findPath_7 : decode cX8_findPath 7 = .ok (.putfield 162, 3) := by decide +kernel
theorem dX8_findPath_10 : decode cX8_findPath 10 = .ok (.aload_n 0, 1) := by decide +kernel
theorem dX8_findPath_11 : decode cX8_findPath 11 = .ok (.getfield 31, 3) := by decide +kernel
theorem dX8_findPath_14 : decode cX8_findPath 14 = .ok (.aload_n 0, 1) := by decide +kernel
theorem dX8_findPath_15 : decode cX8_findPath 15 = .ok (.getfield 67, 3) := by decide +kernel
theorem dX8_findPath_18 : decode cX8_findPath 18 = .ok (.i2l, 1) := by decide +kernel
theorem dX8_findPath_19 : decode cX8_findPath 19 = .ok (.putfield 261, 3) := by decide +kernel
theorem dX8_findPath_22 : decode cX8_findPath 22 = .ok (.iload_n 2, 1) := by decide +kernel
theorem dX8_findPath_23 : decode cX8_findPath 23 = .ok (.ifCond .lt 163, 3) := by decide +kernel
theorem dX8_findPath_26 : decode cX8_findPath 26 = .ok (.iload_n 2, 1) := by decide +kernel
theorem dX8_findPath_27 : decode cX8_findPath 27 = .ok (.aload_n 0, 1) := by decide +kernel
theorem dX8_findPath_28 : decode cX8_findPath 28 = .ok (.getfield 63, 3) := by decide +kernel
theorem dX8_findPath_31 : decode cX8_findPath 31 = .ok (.if_icmp .ge 155, 3) := by decide +kernel
theorem dX8_findPath_34 : decode cX8_findPath 34 = .ok (.aload_n 0, 1) := by decide +kernel
theorem dX8_findPath_35 : decode cX8_findPath 35 = .ok (.getfield 31, 3) := by decide +kernel
theorem dX8_findPath_38 : decode cX8_findPath 38 = .ok (.getfield 162, 3) := by decide +kernel
theorem dX8_findPath_41 : decode cX8_findPath 41 = .ok (.bipush 8, 2) := by decide +kernel
theorem dX8_findPath_43 : decode cX8_findPath 43 = .ok (.if_icmp .ge 143, 3) := by decide +kernel
theorem dX8_findPath_46 : decode cX8_findPath 46 = .ok (.aload_n 0, 1) := by decide +kernel
theorem dX8_findPath_47 : decode cX8_findPath 47 = .ok (.getfield 17, 3) := by decide +kernel
theorem dX8_findPath_50 : decode cX8_findPath 50 = .ok (.iload_n 2, 1) := by decide +kernel
theorem dX8_findPath_51 : decode cX8_findPath 51 = .ok (.aaload, 1) := by decide +kernel
theorem dX8_findPath_52 : decode cX8_findPath 52 = .ok (.astore_n 3, 1) := by decide +kernel
theorem dX8_findPath_53 : decode cX8_findPath 53 = .ok (.aload_n 3, 1) := by decide +kernel
theorem dX8_findPath_54 : decode cX8_findPath 54 = .ok (.invokevirtual 129, 3) := by decide +kernel
theorem dX8_findPath_57 : decode cX8_findPath 57 = .ok (.istore 4, 2) := by decide +kernel
theorem dX8_findPath_59 : decode cX8_findPath 59 = .ok (.iload 4, 2) := by decide +kernel
theorem dX8_findPath_61 : decode cX8_findPath 61 = .ok (.ifCond .gt 5, 3) := by decide +kernel
theorem dX8_findPath_64 : decode cX8_findPath 64 = .ok (.iconst 0, 1) := by decide +kernel
theorem dX8_findPath_65 : decode cX8_findPath 65 = .ok (.ireturn, 1) := by decide +kernel
theorem dX8_findPath_66 : decode cX8_findPath 66 = .ok (.aload_n 0, 1) := by decide +kernel
theorem dX8_findPath_67 : decode cX8_findPath 67 = .ok (.getfield 31, 3) := by decide +kernel
theorem dX8_findPath_70 : decode cX8_findPath 70 = .ok (.aload_n 0, 1) := by decide +kernel
theorem dX8_findPath_71 : decode cX8_findPath 71 = .ok (.getfield 31, 3) := by decide +kernel
theorem dX8_findPath_74 : decode cX8_findPath 74 = .ok (.getfield 261, 3) := by decide +kernel
theorem dX8_findPath_77 : decode cX8_findPath 77 = .ok (.ldc2_w 263, 3) := by decide +kernel
theorem dX8_findPath_80 : decode cX8_findPath 80 = .ok (.lmul, 1) := by decide +kernel
theorem dX8_findPath_81 : decode cX8_findPath 81 = .ok (.ldc2_w 265, 3) := by decide +kernel
theorem dX8_findPath_84 : decode cX8_findPath 84 = .ok (.ladd, 1) := by decide +kernel
theorem dX8_findPath_85 : decode cX8_findPath 85 = .ok (.ldc2_w 267, 3) := by decide +kernel
theorem dX8_findPath_88 : decode cX8_findPath 88 = .ok (.lrem, 1) := by decide +kernel
theorem dX8_findPath_89 : decode cX8_findPath 89 = .ok (.putfield 261, 3) := by decide +kernel
theorem dX8_findPath_92 : decode cX8_findPath 92 = .ok (.aload_n 3, 1) := by decide +kernel
theorem dX8_findPath_93 : decode cX8_findPath 93 = .ok (.aload_n 0, 1) := by decide +kernel
theorem dX8_findPath_94 : decode cX8_findPath 94 = .ok (.getfield 31, 3) := by decide +kernel
theorem dX8_findPath_97 : decode cX8_findPath 97 = .ok (.getfield 261, 3) := by decide +kernel
theorem dX8_findPath_100 : decode cX8_findPath 100 = .ok (.ldc2_w 269, 3) := by decide +kernel
theorem dX8_findPath_103 : decode cX8_findPath 103 = .ok (.ldiv, 1) := by decide +kernel
theorem dX8_findPath_104 : decode cX8_findPath 104 = .ok (.iload 4, 2) := by decide +kernel
theorem dX8_findPath_106 : decode cX8_findPath 106 = .ok (.i2l, 1) := by decide +kernel
theorem dX8_findPath_107 : decode cX8_findPath 107 = .ok (.lrem, 1) := by decide +kernel
theorem dX8_findPath_108 : decode cX8_findPath 108 = .ok (.l2i, 1) := by decide +kernel
theorem dX8_findPath_109 : decode cX8_findPath 109 = .ok (.invokevirtual 271, 3) := by decide +kernel
theorem dX8_findPath_112 : decode cX8_findPath 112 = .ok (.istore 5, 2) := by decide +kernel
theorem dX8_findPath_114 : decode cX8_findPath 114 = .ok (.aload_n 3, 1) := by decide +kernel
theorem dX8_findPath_115 : decode cX8_findPath 115 = .ok (.aload_n 3, 1) := by decide +kernel
theorem dX8_findPath_116 : decode cX8_findPath 116 = .ok (.getfield 119, 3) := by decide +kernel
theorem dX8_findPath_119 : decode cX8_findPath 119 = .ok (.iload 5, 2) := by decide +kernel
theorem dX8_findPath_121 : decode cX8_findPath 121 = .ok (.invokevirtual 147, 3) := by decide +kernel
theorem dX8_findPath_124 : decode cX8_findPath 124 = .ok (.ifCond .ne 5, 3) := by decide +kernel
theorem dX8_findPath_127 : decode cX8_findPath 127 = .ok (.iconst 0, 1) := by decide +kernel
theorem dX8_findPath_128 : decode cX8_findPath 128 = .ok (.ireturn, 1) := by decide +kernel
theorem dX8_findPath_129 : decode cX8_findPath 129 = .ok (.aload_n 0, 1) := by decide +kernel
theorem dX8_findPath_130 : decode cX8_findPath 130 = .ok (.getfield 31, 3) := by decide +kernel
theorem dX8_findPath_133 : decode cX8_findPath 133 = .ok (.getfield 274, 3) := by decide +kernel
theorem dX8_findPath_136 : decode cX8_findPath 136 = .ok (.aload_n 0, 1) := by decide +kernel
theorem dX8_findPath_137 : decode cX8_findPath 137 = .ok (.getfield 31, 3) := by decide +kernel
theorem dX8_findPath_140 : decode cX8_findPath 140 = .ok (.getfield 162, 3) := by decide +kernel
theorem dX8_findPath_143 : decode cX8_findPath 143 = .ok (.iload_n 2, 1) := by decide +kernel
theorem dX8_findPath_144 : decode cX8_findPath 144 = .ok (.iastore, 1) := by decide +kernel
theorem dX8_findPath_145 : decode cX8_findPath 145 = .ok (.aload_n 0, 1) := by decide +kernel
theorem dX8_findPath_146 : decode cX8_findPath 146 = .ok (.getfield 31, 3) := by decide +kernel
theorem dX8_findPath_149 : decode cX8_findPath 149 = .ok (.getfield 165, 3) := by decide +kernel
theorem dX8_findPath_152 : decode cX8_findPath 152 = .ok (.aload_n 0, 1) := by decide +kernel
theorem dX8_findPath_153 : decode cX8_findPath 153 = .ok (.getfield 31, 3) := by decide +kernel
theorem dX8_findPath_156 : decode cX8_findPath 156 = .ok (.getfield 162, 3) := by decide +kernel
theorem dX8_findPath_159 : decode cX8_findPath 159 = .ok (.iload 5, 2) := by decide +kernel
theorem dX8_findPath_161 : decode cX8_findPath 161 = .ok (.iastore, 1) := by decide +kernel
theorem dX8_findPath_162 : decode cX8_findPath 162 = .ok (.aload_n 0, 1) := by decide +kernel
theorem dX8_findPath_163 : decode cX8_findPath 163 = .ok (.getfield 31, 3) := by decide +kernel
theorem dX8_findPath_166 : decode cX8_findPath 166 = .ok (.dup, 1) := by decide +kernel
theorem dX8_findPath_167 : decode cX8_findPath 167 = .ok (.getfield 162, 3) := by decide +kernel
theorem dX8_findPath_170 : decode cX8_findPath 170 = .ok (.iconst 1, 1) := by decide +kernel
theorem dX8_findPath_171 : decode cX8_findPath 171 = .ok (.iadd, 1) := by decide +kernel
theorem dX8_findPath_172 : decode cX8_findPath 172 = .ok (.putfield 162, 3) := by decide +kernel
theorem dX8_findPath_175 : decode cX8_findPath 175 = .ok (.aload_n 3, 1) := by decide +kernel
theorem dX8_findPath_176 : decode cX8_findPath 176 = .ok (.getfield 126, 3) := by decide +kernel
theorem dX8_findPath_179 : decode cX8_findPath 179 = .ok (.iload 5, 2) := by decide +kernel
theorem dX8_findPath_181 : decode cX8_findPath 181 = .ok (.iaload, 1) := by decide +kernel
theorem dX8_findPath_182 : decode cX8_findPath 182 = .ok (.istore_n 2, 1) := by decide +kernel
theorem dX8_findPath_183 : decode cX8_findPath 183 = .ok (.goto (-161), 3) := by decide +kernel
theorem dX8_findPath_186 : decode cX8_findPath 186 = .ok (.iconst 1, 1) := by decide +kernel
theorem dX8_findPath_187 : decode cX8_findPath 187 = .ok (.ireturn, 1) := by decide +kernel
theorem dX8_goPath_0 : decode cX8_goPath 0 = .ok (.iconst 0, 1) := by decide +kernel
theorem dX8_goPath_1 : decode cX8_goPath 1 = .ok (.istore_n 1, 1) := by decide +kernel
theorem dX8_goPath_2 : decode cX8_goPath 2 = .ok (.iload_n 1, 1) := by decide +kernel
theorem dX8_goPath_3 : decode cX8_goPath 3 = .ok (.aload_n 0, 1) := by decide +kernel
theorem dX8_goPath_4 : decode cX8_goPath 4 = .ok (.getfield 31, 3) := by decide +kernel
theorem dX8_goPath_7 : decode cX8_goPath 7 = .ok (.getfield 162, 3) := by decide +kernel
theorem dX8_goPath_10 : decode cX8_goPath 10 = .ok (.if_icmp .ge 35, 3) := by decide +kernel
theorem dX8_goPath_13 : decode cX8_goPath 13 = .ok (.aload_n 0, 1) := by decide +kernel
theorem dX8_goPath_14 : decode cX8_goPath 14 = .ok (.getfield 17, 3) := by decide +kernel
theorem dX8_goPath_17 : decode cX8_goPath 17 = .ok (.aload_n 0, 1) := by decide +kernel
theorem dX8_goPath_18 : decode cX8_goPath 18 = .ok (.getfield 31, 3) := by decide +kernel
theorem dX8_goPath_21 : decode cX8_goPath 21 = .ok (.getfield 274, 3) := by decide +kernel
theorem dX8_goPath_24 : decode cX8_goPath 24 = .ok (.iload_n 1, 1) := by decide +kernel
theorem dX8_goPath_25 : decode cX8_goPath 25 = .ok (.iaload, 1) := by decide +kernel
theorem dX8_goPath_26 : decode cX8_goPath 26 = .ok (.aaload, 1) := by decide +kernel
theorem dX8_goPath_27 : decode cX8_goPath 27 = .ok (.aload_n 0, 1) := by decide +kernel
theorem dX8_goPath_28 : decode cX8_goPath 28 = .ok (.getfield 31, 3) := by decide +kernel
theorem dX8_goPath_31 : decode cX8_goPath 31 = .ok (.getfield 165, 3) := by decide +kernel
theorem dX8_goPath_34 : decode cX8_goPath 34 = .ok (.iload_n 1, 1) := by decide +kernel
theorem dX8_goPath_35 : decode cX8_goPath 35 = .ok (.iaload, 1) := by decide +kernel
theorem dX8_goPath_36 : decode cX8_goPath 36 = .ok (.invokevirtual 151, 3) := by decide +kernel
theorem dX8_goPath_39 : decode cX8_goPath 39 = .ok (.iinc 1 1, 3) := by decide +kernel
theorem dX8_goPath_42 : decode cX8_goPath 42 = .ok (.goto (-40), 3) := by decide +kernel
theorem dX8_goPath_45 : decode cX8_goPath 45 = .ok (.aload_n 0, 1) := by decide +kernel
theorem dX8_goPath_46 : decode cX8_goPath 46 = .ok (.aload_n 0, 1) := by decide +kernel
theorem dX8_goPath_47 : decode cX8_goPath 47 = .ok (.getfield 31, 3) := by decide +kernel
theorem dX8_goPath_50 : decode cX8_goPath 50 = .ok (.getfield 261, 3) := by decide +kernel
theorem dX8_goPath_53 : decode cX8_goPath 53 = .ok (.l2i, 1) := by decide +kernel
theorem dX8_goPath_54 : decode cX8_goPath 54 = .ok (.putfield 67, 3) := by decide +kernel
theorem dX8_goPath_57 : decode cX8_goPath 57 = .ok (.return_, 1) := by decide +kernel
theorem dX8_weighRows_0 : decode cX8_weighRows 0 = .ok (.aload_n 1, 1) := by decide +kernel
theorem dX8_weighRows_1 : decode cX8_weighRows 1 = .ok (.invokevirtual 136, 3) := by decide +kernel
theorem dX8_weighRows_4 : decode cX8_weighRows 4 = .ok (.ifCond .eq 10, 3) := by decide +kernel
theorem dX8_weighRows_7 : decode cX8_weighRows 7 = .ok (.aload_n 1, 1) := by decide +kernel
theorem dX8_weighRows_8 : decode cX8_weighRows 8 = .ok (.invokevirtual 129, 3) := by decide +kernel
theorem dX8_weighRows_11 : decode cX8_weighRows 11 = .ok (.ifCond .ne 6, 3) := by decide +kernel
theorem dX8_weighRows_14 : decode cX8_weighRows 14 = .ok (.bipush (-2), 2) := by decide +kernel
theorem dX8_weighRows_16 : decode cX8_weighRows 16 = .ok (.ireturn, 1) := by decide +kernel
theorem dX8_weighRows_17 : decode cX8_weighRows 17 = .ok (.aload_n 0, 1) := by decide +kernel
theorem dX8_weighRows_18 : decode cX8_weighRows 18 = .ok (.getfield 52, 3) := by decide +kernel
theorem dX8_weighRows_21 : decode cX8_weighRows 21 = .ok (.aload_n 1, 1) := by decide +kernel
theorem dX8_weighRows_22 : decode cX8_weighRows 22 = .ok (.iload_n 2, 1) := by decide +kernel
theorem dX8_weighRows_23 : decode cX8_weighRows 23 = .ok (.invokevirtual 228, 3) := by decide +kernel
theorem dX8_weighRows_26 : decode cX8_weighRows 26 = .ok (.ifCond .ne 6, 3) := by decide +kernel
theorem dX8_weighRows_29 : decode cX8_weighRows 29 = .ok (.bipush (-6), 2) := by decide +kernel
theorem dX8_weighRows_31 : decode cX8_weighRows 31 = .ok (.ireturn, 1) := by decide +kernel
theorem dX8_weighRows_32 : decode cX8_weighRows 32 = .ok (.aload_n 0, 1) := by decide +kernel
theorem dX8_weighRows_33 : decode cX8_weighRows 33 = .ok (.getfield 52, 3) := by decide +kernel
theorem dX8_weighRows_36 : decode cX8_weighRows 36 = .ok (.invokevirtual 218, 3) := by decide +kernel
theorem dX8_weighRows_39 : decode cX8_weighRows 39 = .ok (.aload_n 0, 1) := by decide +kernel
theorem dX8_weighRows_40 : decode cX8_weighRows 40 = .ok (.getfield 52, 3) := by decide +kernel
theorem dX8_weighRows_43 : decode cX8_weighRows 43 = .ok (.aload_n 1, 1) := by decide +kernel
theorem dX8_weighRows_44 : decode cX8_weighRows 44 = .ok (.iload_n 2, 1) := by decide +kernel
theorem dX8_weighRows_45 : decode cX8_weighRows 45 = .ok (.iload_n 3, 1) := by decide +kernel
theorem dX8_weighRows_46 : decode cX8_weighRows 46 = .ok (.invokevirtual 232, 3) := by decide +kernel
theorem dX8_weighRows_49 : decode cX8_weighRows 49 = .ok (.iconst 0, 1) := by decide +kernel
theorem dX8_weighRows_50 : decode cX8_weighRows 50 = .ok (.ireturn, 1) := by decide +kernel
theorem dX8_common_0 : decode cX8_common 0 = .ok (.lload_n 0, 1) := by decide +kernel
theorem dX8_common_1 : decode cX8_common 1 = .ok (.lstore 4, 2) := by decide +kernel
theorem dX8_common_3 : decode cX8_common 3 = .ok (.lload_n 2, 1) := by decide +kernel
theorem dX8_common_4 : decode cX8_common 4 = .ok (.lstore 6, 2) := by decide +kernel
theorem dX8_common_6 : decode cX8_common 6 = .ok (.iconst 0, 1) := by decide +kernel
theorem dX8_common_7 : decode cX8_common 7 = .ok (.istore 8, 2) := by decide +kernel
theorem dX8_common_9 : decode cX8_common 9 = .ok (.iload 8, 2) := by decide +kernel
theorem dX8_common_11 : decode cX8_common 11 = .ok (.sipush 200, 3) := by decide +kernel
theorem dX8_common_14 : decode cX8_common 14 = .ok (.if_icmp .ge 31, 3) := by decide +kernel
theorem dX8_common_17 : decode cX8_common 17 = .ok (.lload 6, 2) := by decide +kernel
theorem dX8_common_19 : decode cX8_common 19 = .ok (.lconst 0, 1) := by decide +kernel
theorem dX8_common_20 : decode cX8_common 20 = .ok (.lcmp, 1) := by decide +kernel
theorem dX8_common_21 : decode cX8_common 21 = .ok (.ifCond .eq 24, 3) := by decide +kernel
theorem dX8_common_24 : decode cX8_common 24 = .ok (.lload 4, 2) := by decide +kernel
theorem dX8_common_26 : decode cX8_common 26 = .ok (.lload 6, 2) := by decide +kernel
theorem dX8_common_28 : decode cX8_common 28 = .ok (.lrem, 1) := by decide +kernel
theorem dX8_common_29 : decode cX8_common 29 = .ok (.lstore 9, 2) := by decide +kernel
theorem dX8_common_31 : decode cX8_common 31 = .ok (.lload 6, 2) := by decide +kernel
theorem dX8_common_33 : decode cX8_common 33 = .ok (.lstore 4, 2) := by decide +kernel
theorem dX8_common_35 : decode cX8_common 35 = .ok (.lload 9, 2) := by decide +kernel
theorem dX8_common_37 : decode cX8_common 37 = .ok (.lstore 6, 2) := by decide +kernel
theorem dX8_common_39 : decode cX8_common 39 = .ok (.iinc 8 1, 3) := by decide +kernel
theorem dX8_common_42 : decode cX8_common 42 = .ok (.goto (-33), 3) := by decide +kernel
theorem dX8_common_45 : decode cX8_common 45 = .ok (.lload 4, 2) := by decide +kernel
theorem dX8_common_47 : decode cX8_common 47 = .ok (.lconst 1, 1) := by decide +kernel
theorem dX8_common_48 : decode cX8_common 48 = .ok (.lcmp, 1) := by decide +kernel
theorem dX8_common_49 : decode cX8_common 49 = .ok (.ifCond .ge 7, 3) := by decide +kernel
theorem dX8_common_52 : decode cX8_common 52 = .ok (.lconst 1, 1) := by decide +kernel
theorem dX8_common_53 : decode cX8_common 53 = .ok (.goto 5, 3) := by decide +kernel
theorem dX8_common_56 : decode cX8_common 56 = .ok (.lload 4, 2) := by decide +kernel
theorem dX8_common_58 : decode cX8_common 58 = .ok (.lreturn, 1) := by decide +kernel
theorem dX9_init_0 : decode cX9_init 0 = .ok (.aload_n 0, 1) := by decide +kernel
theorem dX9_init_1 : decode cX9_init 1 = .ok (.invokespecial 1, 3) := by decide +kernel
theorem dX9_init_4 : decode cX9_init 4 = .ok (.aload_n 0, 1) := by decide +kernel
theorem dX9_init_5 : decode cX9_init 5 = .ok (.bipush 6, 2) := by decide +kernel
theorem dX9_init_7 : decode cX9_init 7 = .ok (.newarray .int, 2) := by decide +kernel
theorem dX9_init_9 : decode cX9_init 9 = .ok (.putfield 7, 3) := by decide +kernel
theorem dX9_init_12 : decode cX9_init 12 = .ok (.aload_n 0, 1) := by decide +kernel
theorem dX9_init_13 : decode cX9_init 13 = .ok (.bipush 6, 2) := by decide +kernel
theorem dX9_init_15 : decode cX9_init 15 = .ok (.newarray .int, 2) := by decide +kernel
theorem dX9_init_17 : decode cX9_init 17 = .ok (.putfield 13, 3) := by decide +kernel
theorem dX9_init_20 : decode cX9_init 20 = .ok (.aload_n 0, 1) := by decide +kernel
theorem dX9_init_21 : decode cX9_init 21 = .ok (.bipush 96, 2) := by decide +kernel
theorem dX9_init_23 : decode cX9_init 23 = .ok (.newarray .long, 2) := by decide +kernel
theorem dX9_init_25 : decode cX9_init 25 = .ok (.putfield 16, 3) := by decide +kernel
theorem dX9_init_28 : decode cX9_init 28 = .ok (.aload_n 0, 1) := by decide +kernel
theorem dX9_init_29 : decode cX9_init 29 = .ok (.bipush 16, 2) := by decide +kernel
theorem dX9_init_31 : decode cX9_init 31 = .ok (.newarray .long, 2) := by decide +kernel
theorem dX9_init_33 : decode cX9_init 33 = .ok (.putfield 20, 3) := by decide +kernel
theorem dX9_init_36 : decode cX9_init 36 = .ok (.aload_n 0, 1) := by decide +kernel
theorem dX9_init_37 : decode cX9_init 37 = .ok (.bipush 8, 2) := by decide +kernel
theorem dX9_init_39 : decode cX9_init 39 = .ok (.newarray .int, 2) := by decide +kernel
theorem dX9_init_41 : decode cX9_init 41 = .ok (.putfield 23, 3) := by decide +kernel
theorem dX9_init_44 : decode cX9_init 44 = .ok (.aload_n 0, 1) := by decide +kernel
theorem dX9_init_45 : decode cX9_init 45 = .ok (.sipush 202, 3) := by decide +kernel
theorem dX9_init_48 : decode cX9_init 48 = .ok (.newarray .int, 2) := by decide +kernel
theorem dX9_init_50 : decode cX9_init 50 = .ok (.putfield 26, 3) := by decide +kernel
theorem dX9_init_53 : decode cX9_init 53 = .ok (.aload_n 0, 1) := by decide +kernel
theorem dX9_init_54 : decode cX9_init 54 = .ok (.sipush 4040, 3) := by decide +kernel
theorem dX9_init_57 : decode cX9_init 57 = .ok (.newarray .int, 2) := by decide +kernel
theorem dX9_init_59 : decode cX9_init 59 = .ok (.putfield 29, 3) := by decide +kernel
theorem dX9_init_62 : decode cX9_init 62 = .ok (.aload_n 0, 1) := by decide +kernel
theorem dX9_init_63 : decode cX9_init 63 = .ok (.lconst 1, 1) := by decide +kernel
theorem dX9_init_64 : decode cX9_init 64 = .ok (.putfield 32, 3) := by decide +kernel
theorem dX9_init_67 : decode cX9_init 67 = .ok (.aload_n 0, 1) := by decide +kernel
theorem dX9_init_68 : decode cX9_init 68 = .ok (.bipush 8, 2) := by decide +kernel
theorem dX9_init_70 : decode cX9_init 70 = .ok (.newarray .int, 2) := by decide +kernel
theorem dX9_init_72 : decode cX9_init 72 = .ok (.putfield 36, 3) := by decide +kernel
theorem dX9_init_75 : decode cX9_init 75 = .ok (.aload_n 0, 1) := by decide +kernel
theorem dX9_init_76 : decode cX9_init 76 = .ok (.bipush 8, 2) := by decide +kernel
theorem dX9_init_78 : decode cX9_init 78 = .ok (.newarray .int, 2) := by decide +kernel
theorem dX9_init_80 : decode cX9_init 80 = .ok (.putfield 39, 3) := by decide +kernel
theorem dX9_init_83 : decode cX9_init 83 = .ok (.aload_n 0, 1) := by decide +kernel
theorem dX9_init_84 : decode cX9_init 84 = .ok (.iconst 4, 1) := by decide +kernel
theorem dX9_init_85 : decode cX9_init 85 = .ok (.newarray .int, 2) := by decide +kernel
theorem dX9_init_87 : decode cX9_init 87 = .ok (.putfield 42, 3) := by decide +kernel
theorem dX9_init_90 : decode cX9_init 90 = .ok (.aload_n 0, 1) := by decide +kernel
theorem dX9_init_91 : decode cX9_init 91 = .ok (.sipush 4394, 3) := by decide +kernel
theorem dX9_init_94 : decode cX9_init 94 = .ok (.newarray .long, 2) := by decide +kernel
theorem dX9_init_96 : decode cX9_init 96 = .ok (.putfield 45, 3) := by decide +kernel
theorem dX9_init_99 : decode cX9_init 99 = .ok (.aload_n 0, 1) := by decide +kernel
theorem dX9_init_100 : decode cX9_init 100 = .ok (.iconst 4, 1) := by decide +kernel
theorem dX9_init_101 : decode cX9_init 101 = .ok (.newarray .int, 2) := by decide +kernel
theorem dX9_init_103 : decode cX9_init 103 = .ok (.putfield 48, 3) := by decide +kernel
theorem dX9_init_106 : decode cX9_init 106 = .ok (.aload_n 0, 1) := by decide +kernel
theorem dX9_init_107 : decode cX9_init 107 = .ok (.iconst 4, 1) := by decide +kernel
theorem dX9_init_108 : decode cX9_init 108 = .ok (.newarray .int, 2) := by decide +kernel
theorem dX9_init_110 : decode cX9_init 110 = .ok (.putfield 51, 3) := by decide +kernel
theorem dX9_init_113 : decode cX9_init 113 = .ok (.aload_n 0, 1) := by decide +kernel
theorem dX9_init_114 : decode cX9_init 114 = .ok (.sipush 216, 3) := by decide +kernel
theorem dX9_init_117 : decode cX9_init 117 = .ok (.newarray .long, 2) := by decide +kernel
theorem dX9_init_119 : decode cX9_init 119 = .ok (.putfield 54, 3) := by decide +kernel
theorem dX9_init_122 : decode cX9_init 122 = .ok (.aload_n 0, 1) := by decide +kernel
theorem dX9_init_123 : decode cX9_init 123 = .ok (.sipush 216, 3) := by decide +kernel
theorem dX9_init_126 : decode cX9_init 126 = .ok (.newarray .long, 2) := by decide +kernel
theorem dX9_init_128 : decode cX9_init 128 = .ok (.putfield 57, 3) := by decide +kernel
theorem dX9_init_131 : decode cX9_init 131 = .ok (.iconst 0, 1) := by decide +kernel
theorem dX9_init_132 : decode cX9_init 132 = .ok (.istore_n 1, 1) := by decide +kernel
theorem dX9_init_133 : decode cX9_init 133 = .ok (.iload_n 1, 1) := by decide +kernel
theorem dX9_init_134 : decode cX9_init 134 = .ok (.bipush 6, 2) := by decide +kernel
theorem dX9_init_136 : decode cX9_init 136 = .ok (.if_icmp .ge 16, 3) := by decide +kernel
theorem dX9_init_139 : decode cX9_init 139 = .ok (.aload_n 0, 1) := by decide +kernel
theorem dX9_init_140 : decode cX9_init 140 = .ok (.getfield 7, 3) := by decide +kernel
theorem dX9_init_143 : decode cX9_init 143 = .ok (.iload_n 1, 1) := by decide +kernel
theorem dX9_init_144 : decode cX9_init 144 = .ok (.iconst (-1), 1) := by decide +kernel
theorem dX9_init_145 : decode cX9_init 145 = .ok (.iastore, 1) := by decide +kernel
theorem dX9_init_146 : decode cX9_init 146 = .ok (.iinc 1 1, 3) := by decide +kernel
theorem dX9_init_149 : decode cX9_init 149 = .ok (.goto (-16), 3) := by decide +kernel
theorem dX9_init_152 : decode cX9_init 152 = .ok (.iconst 0, 1) := by decide +kernel
theorem dX9_init_153 : decode cX9_init 153 = .ok (.istore_n 1, 1) := by decide +kernel
theorem dX9_init_154 : decode cX9_init 154 = .ok (.iload_n 1, 1) := by decide +kernel
theorem dX9_init_155 : decode cX9_init 155 = .ok (.bipush 8, 2) := by decide +kernel
theorem dX9_init_157 : decode cX9_init 157 = .ok (.if_icmp .ge 37, 3) := by decide +kernel
theorem dX9_init_160 : decode cX9_init 160 = .ok (.iconst 0, 1) := by decide +kernel
theorem dX9_init_161 : decode cX9_init 161 = .ok (.istore_n 2, 1) := by decide +kernel
theorem dX9_init_162 : decode cX9_init 162 = .ok (.iload_n 2, 1) := by decide +kernel
theorem dX9_init_163 : decode cX9_init 163 = .ok (.iconst 4, 1) := by decide +kernel
theorem dX9_init_164 : decode cX9_init 164 = .ok (.if_icmp .ge 24, 3) := by decide +kernel
theorem dX9_init_167 : decode cX9_init 167 = .ok (.aload_n 0, 1) := by decide +kernel
theorem dX9_init_168 : decode cX9_init 168 = .ok (.getfield 26, 3) := by decide +kernel
theorem dX9_init_171 : decode cX9_init 171 = .ok (.bipush 25, 2) := by decide +kernel
theorem dX9_init_173 : decode cX9_init 173 = .ok (.iload_n 1, 1) := by decide +kernel
theorem dX9_init_174 : decode cX9_init 174 = .ok (.imul, 1) := by decide +kernel
theorem dX9_init_175 : decode cX9_init 175 = .ok (.bipush 20, 2) := by decide +kernel
theorem dX9_init_177 : decode cX9_init 177 = .ok (.iadd, 1) := by decide +kernel
theorem dX9_init_178 : decode cX9_init 178 = .ok (.iload_n 2, 1) := by decide +kernel
theorem dX9_init_179 : decode cX9_init 179 = .ok (.iadd, 1) := by decide +kernel
theorem dX9_init_180 : decode cX9_init 180 = .ok (.iconst (-1), 1) := by decide +kernel
theorem dX9_init_181 : decode cX9_init 181 = .ok (.iastore, 1) := by decide +kernel
theorem dX9_init_182 : decode cX9_init 182 = .ok (.iinc 2 1, 3) := by decide +kernel
theorem dX9_init_185 : decode cX9_init 185 = .ok (.goto (-23), 3) := by decide +kernel
theorem dX9_init_188 : decode cX9_init 188 = .ok (.iinc 1 1, 3) := by decide +kernel
theorem dX9_init_191 : decode cX9_init 191 = .ok (.goto (-37), 3) := by decide +kernel
theorem dX9_init_194 : decode cX9_init 194 = .ok (.aload_n 0, 1) := by decide +kernel
theorem dX9_init_195 : decode cX9_init 195 = .ok (.getfield 26, 3) := by decide +kernel
theorem dX9_init_198 : decode cX9_init 198 = .ok (.sipush 200, 3) := by decide +kernel
theorem dX9_init_201 : decode cX9_init 201 = .ok (.iconst 1, 1) := by decide +kernel
theorem dX9_init_202 : decode cX9_init 202 = .ok (.iastore, 1) := by decide +kernel
theorem dX9_init_203 : decode cX9_init 203 = .ok (.return_, 1) := by decide +kernel
theorem dX9_in_0 : decode cX9_in 0 = .ok (.lload_n 0, 1) := by decide +kernel
theorem dX9_in_1 : decode cX9_in 1 = .ok (.lload_n 2, 1) := by decide +kernel
theorem dX9_in_2 : decode cX9_in 2 = .ok (.lcmp, 1) := by decide +kernel
theorem dX9_in_3 : decode cX9_in 3 = .ok (.ifCond .lt 14, 3) := by decide +kernel
theorem dX9_in_6 : decode cX9_in 6 = .ok (.lload_n 0, 1) := by decide +kernel
theorem dX9_in_7 : decode cX9_in 7 = .ok (.lload 4, 2) := by decide +kernel
theorem dX9_in_9 : decode cX9_in 9 = .ok (.lcmp, 1) := by decide +kernel
theorem dX9_in_10 : decode cX9_in 10 = .ok (.ifCond .gt 7, 3) := by decide +kernel
theorem dX9_in_13 : decode cX9_in 13 = .ok (.iconst 1, 1) := by decide +kernel
theorem dX9_in_14 : decode cX9_in 14 = .ok (.goto 4, 3) := by decide +kernel
theorem dX9_in_17 : decode cX9_in 17 = .ok (.iconst 0, 1) := by decide +kernel
theorem dX9_in_18 : decode cX9_in 18 = .ok (.ireturn, 1) := by decide +kernel
theorem dX9_isSheet_0 : decode cX9_isSheet 0 = .ok (.iload_n 0, 1) := by decide +kernel
theorem dX9_isSheet_1 : decode cX9_isSheet 1 = .ok (.i2l, 1) := by decide +kernel
theorem dX9_isSheet_2 : decode cX9_isSheet 2 = .ok (.lconst 0, 1) := by decide +kernel
theorem dX9_isSheet_3 : decode cX9_isSheet 3 = .ok (.ldc2_w 60, 3) := by decide +kernel
theorem dX9_isSheet_6 : decode cX9_isSheet 6 = .ok (.invokestatic 62, 3) := by decide +kernel
theorem dX9_isSheet_9 : decode cX9_isSheet 9 = .ok (.ireturn, 1) := by decide +kernel
theorem dX9_cut_0 : decode cX9_cut 0 = .ok (.iload_n 0, 1) := by decide +kernel
theorem dX9_cut_1 : decode cX9_cut 1 = .ok (.ifCond .ne 10, 3) := by decide +kernel
theorem dX9_cut_4 : decode cX9_cut 4 = .ok (.lload_n 1, 1) := by decide +kernel
theorem dX9_cut_5 : decode cX9_cut 5 = .ok (.l2i, 1) := by decide +kernel
theorem dX9_cut_6 : decode cX9_cut 6 = .ok (.i2b, 1) := by decide +kernel
theorem dX9_cut_7 : decode cX9_cut 7 = .ok (.i2l, 1) := by decide +kernel
theorem dX9_cut_8 : decode cX9_cut 8 = .ok (.goto 15, 3) := by decide +kernel
theorem dX9_cut_11 : decode cX9_cut 11 = .ok (.iload_n 0, 1) := by decide +kernel
theorem dX9_cut_12 : decode cX9_cut 12 = .ok (.iconst 1, 1) := by decide +kernel
theorem dX9_cut_13 : decode cX9_cut 13 = .ok (.if_icmp .ne 9, 3) := by decide +kernel
theorem dX9_cut_16 : decode cX9_cut 16 = .ok (.lload_n 1, 1) := by decide +kernel
theorem dX9_cut_17 : decode cX9_cut 17 = .ok (.l2i, 1) := by decide +kernel
theorem dX9_cut_18 : decode cX9_cut 18 = .ok (.i2l, 1) := by decide +kernel
theorem dX9_cut_19 : decode cX9_cut 19 = .ok (.goto 4, 3) := by decide +kernel
theorem dX9_cut_22 : decode cX9_cut 22 = .ok (.lload_n 1, 1) := by decide +kernel
theorem dX9_cut_23 : decode cX9_cut 23 = .ok (.lreturn, 1) := by decide +kernel
theorem dX9_sheet_0 : decode cX9_sheet 0 = .ok (.iload_n 1, 1) := by decide +kernel
theorem dX9_sheet_1 : decode cX9_sheet 1 = .ok (.invokestatic 66, 3) := by decide +kernel
theorem dX9_sheet_4 : decode cX9_sheet 4 = .ok (.ifCond .eq 27, 3) := by decide +kernel
theorem dX9_sheet_7 : decode cX9_sheet 7 = .ok (.iload_n 2, 1) := by decide +kernel
theorem dX9_sheet_8 : decode cX9_sheet 8 = .ok (.i2l, 1) := by decide +kernel
theorem dX9_sheet_9 : decode cX9_sheet 9 = .ok (.ldc2_w 70, 3) := by decide +kernel
theorem dX9_sheet_12 : decode cX9_sheet 12 = .ok (.ldc2_w 72, 3) := by decide +kernel
theorem dX9_sheet_15 : decode cX9_sheet 15 = .ok (.invokestatic 62, 3) := by decide +kernel
theorem dX9_sheet_18 : decode cX9_sheet 18 = .ok (.ifCond .eq 13, 3) := by decide +kernel
theorem dX9_sheet_21 : decode cX9_sheet 21 = .ok (.iload_n 2, 1) := by decide +kernel
theorem dX9_sheet_22 : decode cX9_sheet 22 = .ok (.ifCond .lt 11, 3) := by decide +kernel
theorem dX9_sheet_25 : decode cX9_sheet 25 = .ok (.iload_n 3, 1) := by decide +kernel
theorem dX9_sheet_26 : decode cX9_sheet 26 = .ok (.bipush 16, 2) := by decide +kernel
theorem dX9_sheet_28 : decode cX9_sheet 28 = .ok (.if_icmp .le 5, 3) := by decide +kernel
theorem dX9_sheet_31 : decode cX9_sheet 31 = .ok (.iconst (-1), 1) := by decide +kernel
theorem dX9_sheet_32 : decode cX9_sheet 32 = .ok (.ireturn, 1) := by decide +kernel
theorem dX9_sheet_33 : decode cX9_sheet 33 = .ok (.iload_n 2, 1) := by decide +kernel
theorem dX9_sheet_34 : decode cX9_sheet 34 = .ok (.ifCond .lt 10, 3) := by decide +kernel
theorem dX9_sheet_37 : decode cX9_sheet 37 = .ok (.iload_n 3, 1) := by decide +kernel
theorem dX9_sheet_38 : decode cX9_sheet 38 = .ok (.ifCond .ge 6, 3) := by decide +kernel
theorem dX9_sheet_41 : decode cX9_sheet 41 = .ok (.bipush (-13), 2) := by decide +kernel
theorem dX9_sheet_43 : decode cX9_sheet 43 = .ok (.ireturn, 1) := by decide +kernel
theorem dX9_sheet_44 : decode cX9_sheet 44 = .ok (.aload_n 0, 1) := by decide +kernel
theorem dX9_sheet_45 : decode cX9_sheet 45 = .ok (.getfield 7, 3) := by decide +kernel
theorem dX9_sheet_48 : decode cX9_sheet 48 = .ok (.iload_n 1, 1) := by decide +kernel
theorem dX9_sheet_49 : decode cX9_sheet 49 = .ok (.iload_n 2, 1) := by decide +kernel
theorem dX9_sheet_50 : decode cX9_sheet 50 = .ok (.iastore, 1) := by decide +kernel
theorem dX9_sheet_51 : decode cX9_sheet 51 = .ok (.aload_n 0, 1) := by decide +kernel
theorem dX9_sheet_52 : decode cX9_sheet 52 = .ok (.getfield 13, 3) := by decide +kernel
theorem dX9_sheet_55 : decode cX9_sheet 55 = .ok (.iload_n 1, 1) := by decide +kernel
theorem dX9_sheet_56 : decode cX9_sheet 56 = .ok (.iload_n 2, 1) := by decide +kernel
theorem dX9_sheet_57 : decode cX9_sheet 57 = .ok (.ifCond .ge 7, 3) := by decide +kernel
theorem dX9_sheet_60 : decode cX9_sheet 60 = .ok (.iconst 0, 1) := by decide +kernel
theorem dX9_sheet_61 : decode cX9_sheet 61 = .ok (.goto 4, 3) := by decide +kernel
theorem dX9_sheet_64 : decode cX9_sheet 64 = .ok (.iload_n 3, 1) := by decide +kernel
theorem dX9_sheet_65 : decode cX9_sheet 65 = .ok (.iastore, 1) := by decide +kernel
theorem dX9_sheet_66 : decode cX9_sheet 66 = .ok (.iconst 0, 1) := by decide +kernel
theorem dX9_sheet_67 : decode cX9_sheet 67 = .ok (.istore 4, 2) := by decide +kernel
theorem dX9_sheet_69 : decode cX9_sheet 69 = .ok (.iload 4, 2) := by decide +kernel
theorem dX9_sheet_71 : decode cX9_sheet 71 = .ok (.bipush 16, 2) := by decide +kernel
theorem dX9_sheet_73 : decode cX9_sheet 73 = .ok (.if_icmp .ge 22, 3) := by decide +kernel
theorem dX9_sheet_76 : decode cX9_sheet 76 = .ok (.aload_n 0, 1) := by decide +kernel
theorem dX9_sheet_77 : decode cX9_sheet 77 = .ok (.getfield 16, 3) := by decide +kernel
theorem dX9_sheet_80 : decode cX9_sheet 80 = .ok (.bipush 16, 2) := by decide +kernel
theorem dX9_sheet_82 : decode cX9_sheet 82 = .ok (.iload_n 1, 1) := by decide +kernel
theorem dX9_sheet_83 : decode cX9_sheet 83 = .ok (.imul, 1) := by decide +kernel
theorem dX9_sheet_84 : decode cX9_sheet 84 = .ok (.iload 4, 2) := by decide +kernel
theorem dX9_sheet_86 : decode cX9_sheet 86 = .ok (.iadd, 1) := by decide +kernel
theorem dX9_sheet_87 : decode cX9_sheet 87 = .ok (.lconst 0, 1) := by decide +kernel
theorem dX9_sheet_88 : decode cX9_sheet 88 = .ok (.lastore, 1) := by decide +kernel
theorem dX9_sheet_89 : decode cX9_sheet 89 = .ok (.iinc 4 1, 3) := by decide +kernel
theorem dX9_sheet_92 : decode cX9_sheet 92 = .ok (.goto (-23), 3) := by decide +kernel
theorem dX9_sheet_95 : decode cX9_sheet 95 = .ok (.iconst 0, 1) := by decide +kernel
theorem dX9_sheet_96 : decode cX9_sheet 96 = .ok (.ireturn, 1) := by decide +kernel
theorem dX9_placed_0 : decode cX9_placed 0 = .ok (.aload_n 0, 1) := by decide +kernel
theorem dX9_placed_1 : decode cX9_placed 1 = .ok (.getfield 7, 3) := by decide +kernel
theorem dX9_placed_4 : decode cX9_placed 4 = .ok (.iload_n 1, 1) := by decide +kernel
theorem dX9_placed_5 : decode cX9_placed 5 = .ok (.iaload, 1) := by decide +kernel
theorem dX9_placed_6 : decode cX9_placed 6 = .ok (.ifCond .ge 8, 3) := by decide +kernel
theorem dX9_placed_9 : decode cX9_placed 9 = .ok (.bipush (-11), 2) := by decide +kernel
theorem dX9_placed_11 : decode cX9_placed 11 = .ok (.goto 27, 3) := by decide +kernel
theorem dX9_placed_14 : decode cX9_placed 14 = .ok (.iload_n 2, 1) := by decide +kernel
theorem dX9_placed_15 : decode cX9_placed 15 = .ok (.i2l, 1) := by decide +kernel
theorem dX9_placed_16 : decode cX9_placed 16 = .ok (.lconst 0, 1) := by decide +kernel
theorem dX9_placed_17 : decode cX9_placed 17 = .ok (.aload_n 0, 1) := by decide +kernel
theorem dX9_placed_18 : decode cX9_placed 18 = .ok (.getfield 13, 3) := by decide +kernel
theorem dX9_placed_21 : decode cX9_placed 21 = .ok (.iload_n 1, 1) := by decide +kernel
theorem dX9_placed_22 : decode cX9_placed 22 = .ok (.iaload, 1) := by decide +kernel
theorem dX9_placed_23 : decode cX9_placed 23 = .ok (.iconst 1, 1) := by decide +kernel
theorem dX9_placed_24 : decode cX9_placed 24 = .ok (.isub, 1) := by decide +kernel
theorem dX9_placed_25 : decode cX9_placed 25 = .ok (.i2l, 1) := by decide +kernel
theorem dX9_placed_26 : decode cX9_placed 26 = .ok (.invokestatic 62, 3) := by decide +kernel
theorem dX9_placed_29 : decode cX9_placed 29 = .ok (.ifCond .eq 7, 3) := by decide +kernel
theorem dX9_placed_32 : decode cX9_placed 32 = .ok (.iconst 0, 1) := by decide +kernel
theorem dX9_placed_33 : decode cX9_placed 33 = .ok (.goto 5, 3) := by decide +kernel
theorem dX9_placed_36 : decode cX9_placed 36 = .ok (.bipush (-12), 2) := by decide +kernel
theorem dX9_placed_38 : decode cX9_placed 38 = .ok (.ireturn, 1) := by decide +kernel
theorem dX9_lay_0 : decode cX9_lay 0 = .ok (.iload_n 1, 1) := by decide +kernel
theorem dX9_lay_1 : decode cX9_lay 1 = .ok (.invokestatic 66, 3) := by decide +kernel
theorem dX9_lay_4 : decode cX9_lay 4 = .ok (.ifCond .ne 5, 3) := by decide +kernel
theorem dX9_lay_7 : decode cX9_lay 7 = .ok (.iconst (-1), 1) := by decide +kernel
theorem dX9_lay_8 : decode cX9_lay 8 = .ok (.ireturn, 1) := by decide +kernel
theorem dX9_lay_9 : decode cX9_lay 9 = .ok (.aload_n 0, 1) := by decide +kernel
theorem dX9_lay_10 : decode cX9_lay 10 = .ok (.iload_n 1, 1) := by decide +kernel
theorem dX9_lay_11 : decode cX9_lay 11 = .ok (.iload_n 2, 1) := by decide +kernel
theorem dX9_lay_12 : decode cX9_lay 12 = .ok (.invokevirtual 74, 3) := by decide +kernel
theorem dX9_lay_15 : decode cX9_lay 15 = .ok (.istore 5, 2) := by decide +kernel
theorem dX9_lay_17 : decode cX9_lay 17 = .ok (.iload 5, 2) := by decide +kernel
theorem dX9_lay_19 : decode cX9_lay 19 = .ok (.ifCond .ne 24, 3) := by decide +kernel
theorem dX9_lay_22 : decode cX9_lay 22 = .ok (.aload_n 0, 1) := by decide +kernel
theorem dX9_lay_23 : decode cX9_lay 23 = .ok (.getfield 16, 3) := by decide +kernel
theorem dX9_lay_26 : decode cX9_lay 26 = .ok (.bipush 16, 2) := by decide +kernel
theorem dX9_lay_28 : decode cX9_lay 28 = .ok (.iload_n 1, 1) := by decide +kernel
theorem dX9_lay_29 : decode cX9_lay 29 = .ok (.imul, 1) := by decide +kernel
theorem dX9_lay_30 : decode cX9_lay 30 = .ok (.iload_n 2, 1) := by decide +kernel
theorem dX9_lay_31 : decode cX9_lay 31 = .ok (.iadd, 1) := by decide +kernel
theorem dX9_lay_32 : decode cX9_lay 32 = .ok (.aload_n 0, 1) := by decide +kernel
theorem dX9_lay_33 : decode cX9_lay 33 = .ok (.getfield 7, 3) := by decide +kernel
theorem dX9_lay_36 : decode cX9_lay 36 = .ok (.iload_n 1, 1) := by decide +kernel
theorem dX9_lay_37 : decode cX9_lay 37 = .ok (.iaload, 1) := by decide +kernel
theorem dX9_lay_38 : decode cX9_lay 38 = .ok (.lload_n 3, 1) := by decide +kernel
theorem dX9_lay_39 : decode cX9_lay 39 = .ok (.invokestatic 78, 3) := by decide +kernel
theorem dX9_lay_42 : decode cX9_lay 42 = .ok (.lastore, 1) := by decide +kernel
theorem dX9_lay_43 : decode cX9_lay 43 = .ok (.iload 5, 2) := by decide +kernel
theorem dX9_lay_45 : decode cX9_lay 45 = .ok (.ireturn, 1) := by decide +kernel
theorem dX9_copy_0 : decode cX9_copy 0 = .ok (.iload_n 1, 1) := by decide +kernel
theorem dX9_copy_1 : decode cX9_copy 1 = .ok (.invokestatic 66, 3) := by decide +kernel
theorem dX9_copy_4 : decode cX9_copy 4 = .ok (.ifCond .eq 10, 3) := by decide +kernel
theorem dX9_copy_7 : decode cX9_copy 7 = .ok (.iload_n 3, 1) := by decide +kernel
theorem dX9_copy_8 : decode cX9_copy 8 = .ok (.invokestatic 66, 3) := by decide +kernel
theorem dX9_copy_11 : decode cX9_copy 11 = .ok (.ifCond .ne 5, 3) := by decide +kernel
theorem dX9_copy_14 : decode cX9_copy 14 = .ok (.iconst (-1), 1) := by decide +kernel
theorem dX9_copy_15 : decode cX9_copy 15 = .ok (.ireturn, 1) := by decide +kernel
theorem dX9_copy_16 : decode cX9_copy 16 = .ok (.aload_n 0, 1) := by decide +kernel
theorem dX9_copy_17 : decode cX9_copy 17 = .ok (.getfield 7, 3) := by decide +kernel
theorem dX9_copy_20 : decode cX9_copy 20 = .ok (.iload_n 1, 1) := by decide +kernel
theorem dX9_copy_21 : decode cX9_copy 21 = .ok (.iaload, 1) := by decide +kernel
theorem dX9_copy_22 : decode cX9_copy 22 = .ok (.ifCond .lt 12, 3) := by decide +kernel
theorem dX9_copy_25 : decode cX9_copy 25 = .ok (.aload_n 0, 1) := by decide +kernel
theorem dX9_copy_26 : decode cX9_copy 26 = .ok (.getfield 7, 3) := by decide +kernel
theorem dX9_copy_29 : decode cX9_copy 29 = .ok (.iload_n 3, 1) := by decide +kernel
theorem dX9_copy_30 : decode cX9_copy 30 = .ok (.iaload, 1) := by decide +kernel
theorem dX9_copy_31 : decode cX9_copy 31 = .ok (.ifCond .ge 6, 3) := by decide +kernel
theorem dX9_copy_34 : decode cX9_copy 34 = .ok (.bipush (-11), 2) := by decide +kernel
theorem dX9_copy_36 : decode cX9_copy 36 = .ok (.ireturn, 1) := by decide +kernel
theorem dX9_copy_37 : decode cX9_copy 37 = .ok (.aload_n 0, 1) := by decide +kernel
theorem dX9_copy_38 : decode cX9_copy 38 = .ok (.getfield 7, 3) := by decide +kernel
theorem dX9_copy_41 : decode cX9_copy 41 = .ok (.iload_n 1, 1) := by decide +kernel
theorem dX9_copy_42 : decode cX9_copy 42 = .ok (.iaload, 1) := by decide +kernel
theorem dX9_copy_43 : decode cX9_copy 43 = .ok (.aload_n 0, 1) := by decide +kernel
theorem dX9_copy_44 : decode cX9_copy 44 = .ok (.getfield 7, 3) := by decide +kernel
theorem dX9_copy_47 : decode cX9_copy 47 = .ok (.iload_n 3, 1) := by decide +kernel
theorem dX9_copy_48 : decode cX9_copy 48 = .ok (.iaload, 1) := by decide +kernel
theorem dX9_copy_49 : decode cX9_copy 49 = .ok (.if_icmp .eq 6, 3) := by decide +kernel
theorem dX9_copy_52 : decode cX9_copy 52 = .ok (.bipush (-14), 2) := by decide +kernel
theorem dX9_copy_54 : decode cX9_copy 54 = .ok (.ireturn, 1) := by decide +kernel
theorem dX9_copy_55 : decode cX9_copy 55 = .ok (.iload 5, 2) := by decide +kernel
theorem dX9_copy_57 : decode cX9_copy 57 = .ok (.ifCond .lt 39, 3) := by decide +kernel
theorem dX9_copy_60 : decode cX9_copy 60 = .ok (.iload_n 2, 1) := by decide +kernel
theorem dX9_copy_61 : decode cX9_copy 61 = .ok (.ifCond .lt 35, 3) := by decide +kernel
theorem dX9_copy_64 : decode cX9_copy 64 = .ok (.iload 4, 2) := by decide +kernel
theorem dX9_copy_66 : decode cX9_copy 66 = .ok (.ifCond .lt 30, 3) := by decide +kernel
theorem dX9_copy_69 : decode cX9_copy 69 = .ok (.iload 5, 2) := by decide +kernel
theorem dX9_copy_71 : decode cX9_copy 71 = .ok (.aload_n 0, 1) := by decide +kernel
theorem dX9_copy_72 : decode cX9_copy 72 = .ok (.getfield 13, 3) := by decide +kernel
theorem dX9_copy_75 : decode cX9_copy 75 = .ok (.iload_n 1, 1) := by decide +kernel
theorem dX9_copy_76 : decode cX9_copy 76 = .ok (.iaload, 1) := by decide +kernel
theorem dX9_copy_77 : decode cX9_copy 77 = .ok (.iload_n 2, 1) := by decide +kernel
theorem dX9_copy_78 : decode cX9_copy 78 = .ok (.isub, 1) := by decide +kernel
theorem dX9_copy_79 : decode cX9_copy 79 = .ok (.if_icmp .gt 17, 3) := by decide +kernel
theorem dX9_copy_82 : decode cX9_copy 82 = .ok (.iload 5, 2) := by decide +kernel
theorem dX9_copy_84 : decode cX9_copy 84 = .ok (.aload_n 0, 1) := by decide +kernel
theorem dX9_copy_85 : decode cX9_copy 85 = .ok (.getfield 13, 3) := by decide +kernel
theorem dX9_copy_88 : decode cX9_copy 88 = .ok (.iload_n 3, 1) := by decide +kernel
theorem dX9_copy_89 : decode cX9_copy 89 = .ok (.iaload, 1) := by decide +kernel
theorem dX9_copy_90 : decode cX9_copy 90 = .ok (.iload 4, 2) := by decide +kernel
theorem dX9_copy_92 : decode cX9_copy 92 = .ok (.isub, 1) := by decide +kernel
theorem dX9_copy_93 : decode cX9_copy 93 = .ok (.if_icmp .le 6, 3) := by decide +kernel
theorem dX9_copy_96 : decode cX9_copy 96 = .ok (.bipush (-12), 2) := by decide +kernel
theorem dX9_copy_98 : decode cX9_copy 98 = .ok (.ireturn, 1) := by decide +kernel
theorem dX9_copy_99 : decode cX9_copy 99 = .ok (.iconst 0, 1) := by decide +kernel
theorem dX9_copy_100 : decode cX9_copy 100 = .ok (.istore 6, 2) := by decide +kernel
theorem dX9_copy_102 : decode cX9_copy 102 = .ok (.iload 6, 2) := by decide +kernel
theorem dX9_copy_104 : decode cX9_copy 104 = .ok (.iload 5, 2) := by decide +kernel
theorem dX9_copy_106 : decode cX9_copy 106 = .ok (.if_icmp .ge 30, 3) := by decide +kernel
theorem dX9_copy_109 : decode cX9_copy 109 = .ok (.aload_n 0, 1) := by decide +kernel
theorem dX9_copy_110 : decode cX9_copy 110 = .ok (.getfield 20, 3) := by decide +kernel
theorem dX9_copy_113 : decode cX9_copy 113 = .ok (.iload 6, 2) := by decide +kernel
theorem dX9_copy_115 : decode cX9_copy 115 = .ok (.aload_n 0, 1) := by decide +kernel
theorem dX9_copy_116 : decode cX9_copy 116 = .ok (.getfield 16, 3) := by decide +kernel
theorem dX9_copy_119 : decode cX9_copy 119 = .ok (.bipush 16, 2) := by decide +kernel
theorem dX9_copy_121 : decode cX9_copy 121 = .ok (.iload_n 1, 1) := by decide +kernel
theorem dX9_copy_122 : decode cX9_copy 122 = .ok (.imul, 1) := by decide +kernel
theorem dX9_copy_123 : decode cX9_copy 123 = .ok (.iload_n 2, 1) := by decide +kernel
theorem dX9_copy_124 : decode cX9_copy 124 = .ok (.iadd, 1) := by decide +kernel
theorem dX9_copy_125 : decode cX9_copy 125 = .ok (.iload 6, 2) := by decide +kernel
theorem dX9_copy_127 : decode cX9_copy 127 = .ok (.iadd, 1) := by decide +kernel
theorem dX9_copy_128 : decode cX9_copy 128 = .ok (.laload, 1) := by decide +kernel
theorem dX9_copy_129 : decode cX9_copy 129 = .ok (.lastore, 1) := by decide +kernel
theorem dX9_copy_130 : decode cX9_copy 130 = .ok (.iinc 6 1, 3) := by decide +kernel
theorem dX9_copy_133 : decode cX9_copy 133 = .ok (.goto (-31), 3) := by decide +kernel
theorem dX9_copy_136 : decode cX9_copy 136 = .ok (.iconst 0, 1) := by decide +kernel
theorem dX9_copy_137 : decode cX9_copy 137 = .ok (.istore 6, 2) := by decide +kernel
theorem dX9_copy_139 : decode cX9_copy 139 = .ok (.iload 6, 2) := by decide +kernel
theorem dX9_copy_141 : decode cX9_copy 141 = .ok (.iload 5, 2) := by decide +kernel
theorem dX9_copy_143 : decode cX9_copy 143 = .ok (.if_icmp .ge 31, 3) := by decide +kernel
theorem dX9_copy_146 : decode cX9_copy 146 = .ok (.aload_n 0, 1) := by decide +kernel
theorem dX9_copy_147 : decode cX9_copy 147 = .ok (.getfield 16, 3) := by decide +kernel
theorem dX9_copy_150 : decode cX9_copy 150 = .ok (.bipush 16, 2) := by decide +kernel
theorem dX9_copy_152 : decode cX9_copy 152 = .ok (.iload_n 3, 1) := by decide +kernel
theorem dX9_copy_153 : decode cX9_copy 153 = .ok (.imul, 1) := by decide +kernel
theorem dX9_copy_154 : decode cX9_copy 154 = .ok (.iload 4, 2) := by decide +kernel
theorem dX9_copy_156 : decode cX9_copy 156 = .ok (.iadd, 1) := by decide +kernel
theorem dX9_copy_157 : decode cX9_copy 157 = .ok (.iload 6, 2) := by decide +kernel
theorem dX9_copy_159 : decode cX9_copy 159 = .ok (.iadd, 1) := by decide +kernel
theorem dX9_copy_160 : decode cX9_copy 160 = .ok (.aload_n 0, 1) := by decide +kernel
theorem dX9_copy_161 : decode cX9_copy 161 = .ok (.getfield 20, 3) := by decide +kernel
theorem dX9_copy_164 : decode cX9_copy 164 = .ok (.iload 6, 2) := by decide +kernel
theorem dX9_copy_166 : decode cX9_copy 166 = .ok (.laload, 1) := by decide +kernel
theorem dX9_copy_167 : decode cX9_copy 167 = .ok (.lastore, 1) := by decide +kernel
theorem dX9_copy_168 : decode cX9_copy 168 = .ok (.iinc 6 1, 3) := by decide +kernel
theorem dX9_copy_171 : decode cX9_copy 171 = .ok (.goto (-32), 3) := by decide +kernel
theorem dX9_copy_174 : decode cX9_copy 174 = .ok (.iconst 0, 1) := by decide +kernel
theorem dX9_copy_175 : decode cX9_copy 175 = .ok (.ireturn, 1) := by decide +kernel
theorem dX9_holds_0 : decode cX9_holds 0 = .ok (.iload_n 1, 1) := by decide +kernel
theorem dX9_holds_1 : decode cX9_holds 1 = .ok (.invokestatic 66, 3) := by decide +kernel
theorem dX9_holds_4 : decode cX9_holds 4 = .ok (.ifCond .ne 5, 3) := by decide +kernel
theorem dX9_holds_7 : decode cX9_holds 7 = .ok (.iconst (-1), 1) := by decide +kernel
theorem dX9_holds_8 : decode cX9_holds 8 = .ok (.ireturn, 1) := by decide +kernel
theorem dX9_holds_9 : decode cX9_holds 9 = .ok (.aload_n 0, 1) := by decide +kernel
theorem dX9_holds_10 : decode cX9_holds 10 = .ok (.iload_n 1, 1) := by decide +kernel
theorem dX9_holds_11 : decode cX9_holds 11 = .ok (.iload_n 2, 1) := by decide +kernel
theorem dX9_holds_12 : decode cX9_holds 12 = .ok (.invokevirtual 74, 3) := by decide +kernel
theorem dX9_holds_15 : decode cX9_holds 15 = .ok (.istore 5, 2) := by decide +kernel
theorem dX9_holds_17 : decode cX9_holds 17 = .ok (.iload 5, 2) := by decide +kernel
theorem dX9_holds_19 : decode cX9_holds 19 = .ok (.ifCond .ge 8, 3) := by decide +kernel
theorem dX9_holds_22 : decode cX9_holds 22 = .ok (.iload 5, 2) := by decide +kernel
theorem dX9_holds_24 : decode cX9_holds 24 = .ok (.goto 24, 3) := by decide +kernel
theorem dX9_holds_27 : decode cX9_holds 27 = .ok (.aload_n 0, 1) := by decide +kernel
theorem dX9_holds_28 : decode cX9_holds 28 = .ok (.getfield 16, 3) := by decide +kernel
theorem dX9_holds_31 : decode cX9_holds 31 = .ok (.bipush 16, 2) := by decide +kernel
theorem dX9_holds_33 : decode cX9_holds 33 = .ok (.iload_n 1, 1) := by decide +kernel
theorem dX9_holds_34 : decode cX9_holds 34 = .ok (.imul, 1) := by decide +kernel
theorem dX9_holds_35 : decode cX9_holds 35 = .ok (.iload_n 2, 1) := by decide +kernel
theorem dX9_holds_36 : decode cX9_holds 36 = .ok (.iadd, 1) := by decide +kernel
theorem dX9_holds_37 : decode cX9_holds 37 = .ok (.laload, 1) := by decide +kernel
theorem dX9_holds_38 : decode cX9_holds 38 = .ok (.lload_n 3, 1) := by decide +kernel
theorem dX9_holds_39 : decode cX9_holds 39 = .ok (.lcmp, 1) := by decide +kernel
theorem dX9_holds_40 : decode cX9_holds 40 = .ok (.ifCond .ne 7, 3) := by decide +kernel
theorem dX9_holds_43 : decode cX9_holds 43 = .ok (.iconst 1, 1) := by decide +kernel
theorem dX9_holds_44 : decode cX9_holds 44 = .ok (.goto 4, 3) := by decide +kernel
theorem dX9_holds_47 : decode cX9_holds 47 = .ok (.iconst 0, 1) := by decide +kernel
theorem dX9_holds_48 : decode cX9_holds 48 = .ok (.ireturn, 1) := by decide +kernel
theorem dX9_isUrn_0 : decode cX9_isUrn 0 = .ok (.iload_n 1, 1) := by decide +kernel
theorem dX9_isUrn_1 : decode cX9_isUrn 1 = .ok (.i2l, 1) := by decide +kernel
theorem dX9_isUrn_2 : decode cX9_isUrn 2 = .ok (.lconst 0, 1) := by decide +kernel
theorem dX9_isUrn_3 : decode cX9_isUrn 3 = .ok (.aload_n 0, 1) := by decide +kernel
theorem dX9_isUrn_4 : decode cX9_isUrn 4 = .ok (.getfield 82, 3) := by decide +kernel
theorem dX9_isUrn_7 : decode cX9_isUrn 7 = .ok (.iconst 1, 1) := by decide +kernel
theorem dX9_isUrn_8 : decode cX9_isUrn 8 = .ok (.isub, 1) := by decide +kernel
theorem dX9_isUrn_9 : decode cX9_isUrn 9 = .ok (.i2l, 1) := by decide +kernel
theorem dX9_isUrn_10 : decode cX9_isUrn 10 = .ok (.invokestatic 62, 3) := by decide +kernel
theorem dX9_isUrn_13 : decode cX9_isUrn 13 = .ok (.ireturn, 1) := by decide +kernel
theorem dX9_isColour_0 : decode cX9_isColour 0 = .ok (.iload_n 2, 1) := by decide +kernel
theorem dX9_isColour_1 : decode cX9_isColour 1 = .ok (.i2l, 1) := by decide +kernel
theorem dX9_isColour_2 : decode cX9_isColour 2 = .ok (.lconst 0, 1) := by decide +kernel
theorem dX9_isColour_3 : decode cX9_isColour 3 = .ok (.aload_n 0, 1) := by decide +kernel
theorem dX9_isColour_4 : decode cX9_isColour 4 = .ok (.getfield 23, 3) := by decide +kernel
theorem dX9_isColour_7 : decode cX9_isColour 7 = .ok (.iload_n 1, 1) := by decide +kernel
theorem dX9_isColour_8 : decode cX9_isColour 8 = .ok (.iaload, 1) := by decide +kernel
theorem dX9_isColour_9 : decode cX9_isColour 9 = .ok (.iconst 1, 1) := by decide +kernel
theorem dX9_isColour_10 : decode cX9_isColour 10 = .ok (.isub, 1) := by decide +kernel
theorem dX9_isColour_11 : decode cX9_isColour 11 = .ok (.i2l, 1) := by decide +kernel
theorem dX9_isColour_12 : decode cX9_isColour 12 = .ok (.invokestatic 62, 3) := by decide +kernel
theorem dX9_isColour_15 : decode cX9_isColour 15 = .ok (.ireturn, 1) := by decide +kernel
theorem dX9_keep_0 : decode cX9_keep 0 = .ok (.aload_n 0, 1) := by decide +kernel
theorem dX9_keep_1 : decode cX9_keep 1 = .ok (.getfield 86, 3) := by decide +kernel
theorem dX9_keep_4 : decode cX9_keep 4 = .ok (.bipush 20, 2) := by decide +kernel
theorem dX9_keep_6 : decode cX9_keep 6 = .ok (.if_icmp .ne 40, 3) := by decide +kernel
theorem dX9_keep_9 : decode cX9_keep 9 = .ok (.iconst 0, 1) := by decide +kernel
theorem dX9_keep_10 : decode cX9_keep 10 = .ok (.istore_n 1, 1) := by decide +kernel
theorem dX9_keep_11 : decode cX9_keep 11 = .ok (.iload_n 1, 1) := by decide +kernel
theorem dX9_keep_12 : decode cX9_keep 12 = .ok (.sipush 3838, 3) := by decide +kernel
theorem dX9_keep_15 : decode cX9_keep 15 = .ok (.if_icmp .ge 25, 3) := by decide +kernel
theorem dX9_keep_18 : decode cX9_keep 18 = .ok (.aload_n 0, 1) := by decide +kernel
theorem dX9_keep_19 : decode cX9_keep 19 = .ok (.getfield 29, 3) := by decide +kernel
theorem dX9_keep_22 : decode cX9_keep 22 = .ok (.iload_n 1, 1) := by decide +kernel
theorem dX9_keep_23 : decode cX9_keep 23 = .ok (.aload_n 0, 1) := by decide +kernel
theorem dX9_keep_24 : decode cX9_keep 24 = .ok (.getfield 29, 3) := by decide +kernel
theorem dX9_keep_27 : decode cX9_keep 27 = .ok (.iload_n 1, 1) := by decide +kernel
theorem dX9_keep_28 : decode cX9_keep 28 = .ok (.sipush 202, 3) := by decide +kernel
theorem dX9_keep_31 : decode cX9_keep 31 = .ok (.iadd, 1) := by decide +kernel
theorem dX9_keep_32 : decode cX9_keep 32 = .ok (.iaload, 1) := by decide +kernel
theorem dX9_keep_33 : decode cX9_keep 33 = .ok (.iastore, 1) := by decide +kernel
theorem dX9_keep_34 : decode cX9_keep 34 = .ok (.iinc 1 1, 3) := by decide +kernel
theorem dX9_keep_37 : decode cX9_keep 37 = .ok (.goto (-26), 3) := by decide +kernel
theorem dX9_keep_40 : decode cX9_keep 40 = .ok (.aload_n 0, 1) := by decide +kernel
theorem dX9_keep_41 : decode cX9_keep 41 = .ok (.bipush 19, 2) := by decide +kernel
theorem dX9_keep_43 : decode cX9_keep 43 = .ok (.putfield 86, 3) := by decide +kernel
theorem dX9_keep_46 : decode cX9_keep 46 = .ok (.iconst 0, 1) := by decide +kernel
theorem dX9_keep_47 : decode cX9_keep 47 = .ok (.istore_n 1, 1) := by decide +kernel
theorem dX9_keep_48 : decode cX9_keep 48 = .ok (.iload_n 1, 1) := by decide +kernel
theorem dX9_keep_49 : decode cX9_keep 49 = .ok (.sipush 202, 3) := by decide +kernel
theorem dX9_keep_52 : decode cX9_keep 52 = .ok (.if_icmp .ge 30, 3) := by decide +kernel
theorem dX9_keep_55 : decode cX9_keep 55 = .ok (.aload_n 0, 1) := by decide +kernel
theorem dX9_keep_56 : decode cX9_keep 56 = .ok (.getfield 29, 3) := by decide +kernel
theorem dX9_keep_59 : decode cX9_keep 59 = .ok (.sipush 202, 3) := by decide +kernel
theorem dX9_keep_62 : decode cX9_keep 62 = .ok (.aload_n 0, 1) := by decide +kernel
theorem dX9_keep_63 : decode cX9_keep 63 = .ok (.getfield 86, 3) := by decide +kernel
theorem dX9_keep_66 : decode cX9_keep 66 = .ok (.imul, 1) := by decide +kernel
theorem dX9_keep_67 : decode cX9_keep 67 = .ok (.iload_n 1, 1) := by decide +kernel
theorem dX9_keep_68 : decode cX9_keep 68 = .ok (.iadd, 1) := by decide +kernel
theorem dX9_keep_69 : decode cX9_keep 69 = .ok (.aload_n 0, 1) := by decide +kernel
theorem dX9_keep_70 : decode cX9_keep 70 = .ok (.getfield 26, 3) := by decide +kernel
theorem dX9_keep_73 : decode cX9_keep 73 = .ok (.iload_n 1, 1) := by decide +kernel
theorem dX9_keep_74 : decode cX9_keep 74 = .ok (.iaload, 1) := by decide +kernel
theorem dX9_keep_75 : decode cX9_keep 75 = .ok (.iastore, 1) := by decide +kernel
theorem dX9_keep_76 : decode cX9_keep 76 = .ok (.iinc 1 1, 3) := by decide +kernel
theorem dX9_keep_79 : decode cX9_keep 79 = .ok (.goto (-31), 3) := by decide +kernel
theorem dX9_keep_82 : decode cX9_keep 82 = .ok (.aload_n 0, 1) := by decide +kernel
theorem dX9_keep_83 : decode cX9_keep 83 = .ok (.dup, 1) := by decide +kernel
theorem dX9_keep_84 : decode cX9_keep 84 = .ok (.getfield 86, 3) := by decide +kernel
theorem dX9_keep_87 : decode cX9_keep 87 = .ok (.iconst 1, 1) := by decide +kernel
theorem dX9_keep_88 : decode cX9_keep 88 = .ok (.iadd, 1) := by decide +kernel
theorem dX9_keep_89 : decode cX9_keep 89 = .ok (.putfield 86, 3) := by decide +kernel
theorem dX9_keep_92 : decode cX9_keep 92 = .ok (.return_, 1) := by decide +kernel
theorem dX9_read_0 : decode cX9_read 0 = .ok (.aload_n 0, 1) := by decide +kernel
theorem dX9_read_1 : decode cX9_read 1 = .ok (.iload_n 1, 1) := by decide +kernel
theorem dX9_read_2 : decode cX9_read 2 = .ok (.invokevirtual 89, 3) := by decide +kernel
theorem dX9_read_5 : decode cX9_read 5 = .ok (.ifCond .eq 35, 3) := by decide +kernel
theorem dX9_read_8 : decode cX9_read 8 = .ok (.iload_n 2, 1) := by decide +kernel
theorem dX9_read_9 : decode cX9_read 9 = .ok (.i2l, 1) := by decide +kernel
theorem dX9_read_10 : decode cX9_read 10 = .ok (.lconst 0, 1) := by decide +kernel
theorem dX9_read_11 : decode cX9_read 11 = .ok (.lconst 1, 1) := by decide +kernel
theorem dX9_read_12 : decode cX9_read 12 = .ok (.invokestatic 62, 3) := by decide +kernel
theorem dX9_read_15 : decode cX9_read 15 = .ok (.ifCond .eq 25, 3) := by decide +kernel
theorem dX9_read_18 : decode cX9_read 18 = .ok (.iload_n 2, 1) := by decide +kernel
theorem dX9_read_19 : decode cX9_read 19 = .ok (.iconst 1, 1) := by decide +kernel
theorem dX9_read_20 : decode cX9_read 20 = .ok (.if_icmp .ne 12, 3) := by decide +kernel
theorem dX9_read_23 : decode cX9_read 23 = .ok (.aload_n 0, 1) := by decide +kernel
theorem dX9_read_24 : decode cX9_read 24 = .ok (.iload_n 1, 1) := by decide +kernel
theorem dX9_read_25 : decode cX9_read 25 = .ok (.iload_n 3, 1) := by decide +kernel
theorem dX9_read_26 : decode cX9_read 26 = .ok (.invokevirtual 92, 3) := by decide +kernel
theorem dX9_read_29 : decode cX9_read 29 = .ok (.ifCond .eq 11, 3) := by decide +kernel
theorem dX9_read_32 : decode cX9_read 32 = .ok (.iload 4, 2) := by decide +kernel
theorem dX9_read_34 : decode cX9_read 34 = .ok (.invokestatic 66, 3) := by decide +kernel
theorem dX9_read_37 : decode cX9_read 37 = .ok (.ifCond .ne 5, 3) := by decide +kernel
theorem dX9_read_40 : decode cX9_read 40 = .ok (.iconst (-1), 1) := by decide +kernel
theorem dX9_read_41 : decode cX9_read 41 = .ok (.ireturn, 1) := by decide +kernel
theorem dX9_read_42 : decode cX9_read 42 = .ok (.aload_n 0, 1) := by decide +kernel
theorem dX9_read_43 : decode cX9_read 43 = .ok (.getfield 7, 3) := by decide +kernel
theorem dX9_read_46 : decode cX9_read 46 = .ok (.iload 4, 2) := by decide +kernel
theorem dX9_read_48 : decode cX9_read 48 = .ok (.iaload, 1) := by decide +kernel
theorem dX9_read_49 : decode cX9_read 49 = .ok (.ifCond .ge 6, 3) := by decide +kernel
theorem dX9_read_52 : decode cX9_read 52 = .ok (.bipush (-11), 2) := by decide +kernel
theorem dX9_read_54 : decode cX9_read 54 = .ok (.ireturn, 1) := by decide +kernel
theorem dX9_read_55 : decode cX9_read 55 = .ok (.iload 5, 2) := by decide +kernel
theorem dX9_read_57 : decode cX9_read 57 = .ok (.ifCond .lt 22, 3) := by decide +kernel
theorem dX9_read_60 : decode cX9_read 60 = .ok (.iload 5, 2) := by decide +kernel
theorem dX9_read_62 : decode cX9_read 62 = .ok (.aload_n 0, 1) := by decide +kernel
theorem dX9_read_63 : decode cX9_read 63 = .ok (.getfield 13, 3) := by decide +kernel
theorem dX9_read_66 : decode cX9_read 66 = .ok (.iload 4, 2) := by decide +kernel
theorem dX9_read_68 : decode cX9_read 68 = .ok (.iaload, 1) := by decide +kernel
theorem dX9_read_69 : decode cX9_read 69 = .ok (.aload_n 0, 1) := by decide +kernel
theorem dX9_read_70 : decode cX9_read 70 = .ok (.getfield 23, 3) := by decide +kernel
theorem dX9_read_73 : decode cX9_read 73 = .ok (.iload_n 1, 1) := by decide +kernel
theorem dX9_read_74 : decode cX9_read 74 = .ok (.iaload, 1) := by decide +kernel
theorem dX9_read_75 : decode cX9_read 75 = .ok (.isub, 1) := by decide +kernel
theorem dX9_read_76 : decode cX9_read 76 = .ok (.if_icmp .le 6, 3) := by decide +kernel
theorem dX9_read_79 : decode cX9_read 79 = .ok (.bipush (-12), 2) := by decide +kernel
theorem dX9_read_81 : decode cX9_read 81 = .ok (.ireturn, 1) := by decide +kernel
theorem dX9_read_82 : decode cX9_read 82 = .ok (.iconst 0, 1) := by decide +kernel
theorem dX9_read_83 : decode cX9_read 83 = .ok (.istore 6, 2) := by decide +kernel
theorem dX9_read_85 : decode cX9_read 85 = .ok (.iload 6, 2) := by decide +kernel
theorem dX9_read_87 : decode cX9_read 87 = .ok (.aload_n 0, 1) := by decide +kernel
theorem dX9_read_88 : decode cX9_read 88 = .ok (.getfield 23, 3) := by decide +kernel
theorem dX9_read_91 : decode cX9_read 91 = .ok (.iload_n 1, 1) := by decide +kernel
theorem dX9_read_92 : decode cX9_read 92 = .ok (.iaload, 1) := by decide +kernel
theorem dX9_read_93 : decode cX9_read 93 = .ok (.if_icmp .ge 58, 3) := by decide +kernel
theorem dX9_read_96 : decode cX9_read 96 = .ok (.aload_n 0, 1) := by decide +kernel
theorem dX9_read_97 : decode cX9_read 97 = .ok (.getfield 16, 3) := by decide +kernel
theorem dX9_read_100 : decode cX9_read 100 = .ok (.bipush 16, 2) := by decide +kernel
theorem dX9_read_102 : decode cX9_read 102 = .ok (.iload 4, 2) := by decide +kernel
theorem dX9_read_104 : decode cX9_read 104 = .ok (.imul, 1) := by decide +kernel
theorem dX9_read_105 : decode cX9_read 105 = .ok (.iload 5, 2) := by decide +kernel
theorem dX9_read_107 : decode cX9_read 107 = .ok (.iadd, 1) := by decide +kernel
theorem dX9_read_108 : decode cX9_read 108 = .ok (.iload 6, 2) := by decide +kernel
theorem dX9_read_110 : decode cX9_read 110 = .ok (.iadd, 1) := by decide +kernel
theorem dX9_read_111 : decode cX9_read 111 = .ok (.laload, 1) := by decide +kernel
theorem dX9_read_112 : decode cX9_read 112 = .ok (.iload_n 2, 1) := by decide +kernel
theorem dX9_read_113 : decode cX9_read 113 = .ok (.ifCond .ne 7, 3) := by decide +kernel
theorem dX9_read_116 : decode cX9_read 116 = .ok (.lconst 0, 1) := by decide +kernel
theorem dX9_read_117 : decode cX9_read 117 = .ok (.goto 6, 3) := by decide +kernel
theorem dX9_read_120 : decode cX9_read 120 = .ok (.ldc2_w 96, 3) := by decide +kernel
theorem dX9_read_123 : decode cX9_read 123 = .ok (.iload_n 2, 1) := by decide +kernel
theorem dX9_read_124 : decode cX9_read 124 = .ok (.ifCond .ne 9, 3) := by decide +kernel
theorem dX9_read_127 : decode cX9_read 127 = .ok (.ldc2_w 98, 3) := by decide +kernel
theorem dX9_read_130 : decode cX9_read 130 = .ok (.goto 6, 3) := by decide +kernel
theorem dX9_read_133 : decode cX9_read 133 = .ok (.ldc2_w 100, 3) := by decide +kernel
theorem dX9_read_136 : decode cX9_read 136 = .ok (.invokestatic 62, 3) := by decide +kernel
theorem dX9_read_139 : decode cX9_read 139 = .ok (.ifCond .ne 6, 3) := by decide +kernel
theorem dX9_read_142 : decode cX9_read 142 = .ok (.bipush (-15), 2) := by decide +kernel
theorem dX9_read_144 : decode cX9_read 144 = .ok (.ireturn, 1) := by decide +kernel
theorem dX9_read_145 : decode cX9_read 145 = .ok (.iinc 6 1, 3) := by decide +kernel
theorem dX9_read_148 : decode cX9_read 148 = .ok (.goto (-63), 3) := by decide +kernel
theorem dX9_read_151 : decode cX9_read 151 = .ok (.aload_n 0, 1) := by decide +kernel
theorem dX9_read_152 : decode cX9_read 152 = .ok (.invokevirtual 102, 3) := by decide +kernel
theorem dX9_read_155 : decode cX9_read 155 = .ok (.iconst 0, 1) := by decide +kernel
theorem dX9_read_156 : decode cX9_read 156 = .ok (.istore 6, 2) := by decide +kernel
theorem dX9_read_158 : decode cX9_read 158 = .ok (.iload 6, 2) := by decide +kernel
theorem dX9_read_160 : decode cX9_read 160 = .ok (.aload_n 0, 1) := by decide +kernel
theorem dX9_read_161 : decode cX9_read 161 = .ok (.getfield 23, 3) := by decide +kernel
theorem dX9_read_164 : decode cX9_read 164 = .ok (.iload_n 1, 1) := by decide +kernel
theorem dX9_read_165 : decode cX9_read 165 = .ok (.iaload, 1) := by decide +kernel
theorem dX9_read_166 : decode cX9_read 166 = .ok (.if_icmp .ge 53, 3) := by decide +kernel
theorem dX9_read_169 : decode cX9_read 169 = .ok (.aload_n 0, 1) := by decide +kernel
theorem dX9_read_170 : decode cX9_read 170 = .ok (.getfield 26, 3) := by decide +kernel
theorem dX9_read_173 : decode cX9_read 173 = .ok (.bipush 25, 2) := by decide +kernel
theorem dX9_read_175 : decode cX9_read 175 = .ok (.iload_n 1, 1) := by decide +kernel
theorem dX9_read_176 : decode cX9_read 176 = .ok (.imul, 1) := by decide +kernel
theorem dX9_read_177 : decode cX9_read 177 = .ok (.iload_n 2, 1) := by decide +kernel
theorem dX9_read_178 : decode cX9_read 178 = .ok (.ifCond .ne 8, 3) := by decide +kernel
theorem dX9_read_181 : decode cX9_read 181 = .ok (.iload 6, 2) := by decide +kernel
theorem dX9_read_183 : decode cX9_read 183 = .ok (.goto 11, 3) := by decide +kernel
theorem dX9_read_186 : decode cX9_read 186 = .ok (.iconst 4, 1) := by decide +kernel
theorem dX9_read_187 : decode cX9_read 187 = .ok (.iconst 4, 1) := by decide +kernel
theorem dX9_read_188 : decode cX9_read 188 = .ok (.iload_n 3, 1) := by decide +kernel
theorem dX9_read_189 : decode cX9_read 189 = .ok (.imul, 1) := by decide +kernel
theorem dX9_read_190 : decode cX9_read 190 = .ok (.iadd, 1) := by decide +kernel
theorem dX9_read_191 : decode cX9_read 191 = .ok (.iload 6, 2) := by decide +kernel
theorem dX9_read_193 : decode cX9_read 193 = .ok (.iadd, 1) := by decide +kernel
theorem dX9_read_194 : decode cX9_read 194 = .ok (.iadd, 1) := by decide +kernel
theorem dX9_read_195 : decode cX9_read 195 = .ok (.aload_n 0, 1) := by decide +kernel
theorem dX9_read_196 : decode cX9_read 196 = .ok (.getfield 16, 3) := by decide +kernel
theorem dX9_read_199 : decode cX9_read 199 = .ok (.bipush 16, 2) := by decide +kernel
theorem dX9_read_201 : decode cX9_read 201 = .ok (.iload 4, 2) := by decide +kernel
theorem dX9_read_203 : decode cX9_read 203 = .ok (.imul, 1) := by decide +kernel
theorem dX9_read_204 : decode cX9_read 204 = .ok (.iload 5, 2) := by decide +kernel
theorem dX9_read_206 : decode cX9_read 206 = .ok (.iadd, 1) := by decide +kernel
theorem dX9_read_207 : decode cX9_read 207 = .ok (.iload 6, 2) := by decide +kernel
theorem dX9_read_209 : decode cX9_read 209 = .ok (.iadd, 1) := by decide +kernel
theorem dX9_read_210 : decode cX9_read 210 = .ok (.laload, 1) := by decide +kernel
theorem dX9_read_211 : decode cX9_read 211 = .ok (.l2i, 1) := by decide +kernel
theorem dX9_read_212 : decode cX9_read 212 = .ok (.iastore, 1) := by decide +kernel
theorem dX9_read_213 : decode cX9_read 213 = .ok (.iinc 6 1, 3) := by decide +kernel
theorem dX9_read_216 : decode cX9_read 216 = .ok (.goto (-58), 3) := by decide +kernel
theorem dX9_read_219 : decode cX9_read 219 = .ok (.iconst 0, 1) := by decide +kernel
theorem dX9_read_220 : decode cX9_read 220 = .ok (.ireturn, 1) := by decide +kernel
theorem dX9_urn_0 : decode cX9_urn 0 = .ok (.iload_n 1, 1) := by decide +kernel
theorem dX9_urn_1 : decode cX9_urn 1 = .ok (.i2l, 1) := by decide +kernel
theorem dX9_urn_2 : decode cX9_urn 2 = .ok (.ldc2_w 72, 3) := by decide +kernel
theorem dX9_urn_5 : decode cX9_urn 5 = .ok (.ldc2_w 105, 3) := by decide +kernel
theorem dX9_urn_8 : decode cX9_urn 8 = .ok (.invokestatic 62, 3) := by decide +kernel
theorem dX9_urn_11 : decode cX9_urn 11 = .ok (.ifCond .ne 5, 3) := by decide +kernel
theorem dX9_urn_14 : decode cX9_urn 14 = .ok (.iconst (-1), 1) := by decide +kernel
theorem dX9_urn_15 : decode cX9_urn 15 = .ok (.ireturn, 1) := by decide +kernel
theorem dX9_urn_16 : decode cX9_urn 16 = .ok (.aload_n 0, 1) := by decide +kernel
theorem dX9_urn_17 : decode cX9_urn 17 = .ok (.getfield 82, 3) := by decide +kernel
theorem dX9_urn_20 : decode cX9_urn 20 = .ok (.bipush 8, 2) := by decide +kernel
theorem dX9_urn_22 : decode cX9_urn 22 = .ok (.if_icmp .ne 6, 3) := by decide +kernel
theorem dX9_urn_25 : decode cX9_urn 25 = .ok (.bipush (-3), 2) := by decide +kernel
theorem dX9_urn_27 : decode cX9_urn 27 = .ok (.ireturn, 1) := by decide +kernel
theorem dX9_urn_28 : decode cX9_urn 28 = .ok (.aload_n 0, 1) := by decide +kernel
theorem dX9_urn_29 : decode cX9_urn 29 = .ok (.getfield 23, 3) := by decide +kernel
theorem dX9_urn_32 : decode cX9_urn 32 = .ok (.aload_n 0, 1) := by decide +kernel
theorem dX9_urn_33 : decode cX9_urn 33 = .ok (.getfield 82, 3) := by decide +kernel
theorem dX9_urn_36 : decode cX9_urn 36 = .ok (.iload_n 1, 1) := by decide +kernel
theorem dX9_urn_37 : decode cX9_urn 37 = .ok (.iastore, 1) := by decide +kernel
theorem dX9_urn_38 : decode cX9_urn 38 = .ok (.aload_n 0, 1) := by decide +kernel
theorem dX9_urn_39 : decode cX9_urn 39 = .ok (.dup, 1) := by decide +kernel
theorem dX9_urn_40 : decode cX9_urn 40 = .ok (.getfield 82, 3) := by decide +kernel
theorem dX9_urn_43 : decode cX9_urn 43 = .ok (.iconst 1, 1) := by decide +kernel
theorem dX9_urn_44 : decode cX9_urn 44 = .ok (.iadd, 1) := by decide +kernel
theorem dX9_urn_45 : decode cX9_urn 45 = .ok (.putfield 82, 3) := by decide +kernel
theorem dX9_urn_48 : decode cX9_urn 48 = .ok (.aload_n 0, 1) := by decide +kernel
theorem dX9_urn_49 : decode cX9_urn 49 = .ok (.getfield 82, 3) := by decide +kernel
theorem dX9_urn_52 : decode cX9_urn 52 = .ok (.iconst 1, 1) := by decide +kernel
theorem dX9_urn_53 : decode cX9_urn 53 = .ok (.isub, 1) := by decide +kernel
theorem dX9_urn_54 : decode cX9_urn 54 = .ok (.ireturn, 1) := by decide +kernel
theorem dX9_put_0 : decode cX9_put 0 = .ok (.aload_n 0, 1) := by decide +kernel
theorem dX9_put_1 : decode cX9_put 1 = .ok (.iload_n 1, 1) := by decide +kernel
theorem dX9_put_2 : decode cX9_put 2 = .ok (.invokevirtual 89, 3) := by decide +kernel
theorem dX9_put_5 : decode cX9_put 5 = .ok (.ifCond .eq 24, 3) := by decide +kernel
theorem dX9_put_8 : decode cX9_put 8 = .ok (.aload_n 0, 1) := by decide +kernel
theorem dX9_put_9 : decode cX9_put 9 = .ok (.iload_n 1, 1) := by decide +kernel
theorem dX9_put_10 : decode cX9_put 10 = .ok (.iload_n 2, 1) := by decide +kernel
theorem dX9_put_11 : decode cX9_put 11 = .ok (.invokevirtual 92, 3) := by decide +kernel
theorem dX9_put_14 : decode cX9_put 14 = .ok (.ifCond .eq 15, 3) := by decide +kernel
theorem dX9_put_17 : decode cX9_put 17 = .ok (.iload_n 3, 1) := by decide +kernel
theorem dX9_put_18 : decode cX9_put 18 = .ok (.i2l, 1) := by decide +kernel
theorem dX9_put_19 : decode cX9_put 19 = .ok (.lconst 0, 1) := by decide +kernel
theorem dX9_put_20 : decode cX9_put 20 = .ok (.ldc2_w 98, 3) := by decide +kernel
theorem dX9_put_23 : decode cX9_put 23 = .ok (.invokestatic 62, 3) := by decide +kernel
theorem dX9_put_26 : decode cX9_put 26 = .ok (.ifCond .ne 5, 3) := by decide +kernel
theorem dX9_put_29 : decode cX9_put 29 = .ok (.iconst (-1), 1) := by decide +kernel
theorem dX9_put_30 : decode cX9_put 30 = .ok (.ireturn, 1) := by decide +kernel
theorem dX9_put_31 : decode cX9_put 31 = .ok (.aload_n 0, 1) := by decide +kernel
theorem dX9_put_32 : decode cX9_put 32 = .ok (.invokevirtual 102, 3) := by decide +kernel
theorem dX9_put_35 : decode cX9_put 35 = .ok (.aload_n 0, 1) := by decide +kernel
theorem dX9_put_36 : decode cX9_put 36 = .ok (.getfield 26, 3) := by decide +kernel
theorem dX9_put_39 : decode cX9_put 39 = .ok (.bipush 25, 2) := by decide +kernel
theorem dX9_put_41 : decode cX9_put 41 = .ok (.iload_n 1, 1) := by decide +kernel
theorem dX9_put_42 : decode cX9_put 42 = .ok (.imul, 1) := by decide +kernel
theorem dX9_put_43 : decode cX9_put 43 = .ok (.iload_n 2, 1) := by decide +kernel
theorem dX9_put_44 : decode cX9_put 44 = .ok (.iadd, 1) := by decide +kernel
theorem dX9_put_45 : decode cX9_put 45 = .ok (.iaload, 1) := by decide +kernel
theorem dX9_put_46 : decode cX9_put 46 = .ok (.istore 4, 2) := by decide +kernel
theorem dX9_put_48 : decode cX9_put 48 = .ok (.aload_n 0, 1) := by decide +kernel
theorem dX9_put_49 : decode cX9_put 49 = .ok (.getfield 26, 3) := by decide +kernel
theorem dX9_put_52 : decode cX9_put 52 = .ok (.bipush 25, 2) := by decide +kernel
theorem dX9_put_54 : decode cX9_put 54 = .ok (.iload_n 1, 1) := by decide +kernel
theorem dX9_put_55 : decode cX9_put 55 = .ok (.imul, 1) := by decide +kernel
theorem dX9_put_56 : decode cX9_put 56 = .ok (.iload_n 2, 1) := by decide +kernel
theorem dX9_put_57 : decode cX9_put 57 = .ok (.iadd, 1) := by decide +kernel
theorem dX9_put_58 : decode cX9_put 58 = .ok (.iload_n 3, 1) := by decide +kernel
theorem dX9_put_59 : decode cX9_put 59 = .ok (.iastore, 1) := by decide +kernel
theorem dX9_put_60 : decode cX9_put 60 = .ok (.iload 4, 2) := by decide +kernel
theorem dX9_put_62 : decode cX9_put 62 = .ok (.ireturn, 1) := by decide +kernel
theorem dX9_add_0 : decode cX9_add 0 = .ok (.aload_n 0, 1) := by decide +kernel
theorem dX9_add_1 : decode cX9_add 1 = .ok (.iload_n 1, 1) := by decide +kernel
theorem dX9_add_2 : decode cX9_add 2 = .ok (.invokevirtual 89, 3) := by decide +kernel
theorem dX9_add_5 : decode cX9_add 5 = .ok (.ifCond .eq 36, 3) := by decide +kernel
theorem dX9_add_8 : decode cX9_add 8 = .ok (.aload_n 0, 1) := by decide +kernel
theorem dX9_add_9 : decode cX9_add 9 = .ok (.iload_n 1, 1) := by decide +kernel
theorem dX9_add_10 : decode cX9_add 10 = .ok (.iload_n 2, 1) := by decide +kernel
theorem dX9_add_11 : decode cX9_add 11 = .ok (.invokevirtual 92, 3) := by decide +kernel
theorem dX9_add_14 : decode cX9_add 14 = .ok (.ifCond .eq 27, 3) := by decide +kernel
theorem dX9_add_17 : decode cX9_add 17 = .ok (.aload_n 0, 1) := by decide +kernel
theorem dX9_add_18 : decode cX9_add 18 = .ok (.iload_n 1, 1) := by decide +kernel
theorem dX9_add_19 : decode cX9_add 19 = .ok (.iload_n 3, 1) := by decide +kernel
theorem dX9_add_20 : decode cX9_add 20 = .ok (.invokevirtual 92, 3) := by decide +kernel
theorem dX9_add_23 : decode cX9_add 23 = .ok (.ifCond .eq 18, 3) := by decide +kernel
theorem dX9_add_26 : decode cX9_add 26 = .ok (.iload 4, 2) := by decide +kernel
theorem dX9_add_28 : decode cX9_add 28 = .ok (.i2l, 1) := by decide +kernel
theorem dX9_add_29 : decode cX9_add 29 = .ok (.ldc2_w 96, 3) := by decide +kernel
theorem dX9_add_32 : decode cX9_add 32 = .ok (.ldc2_w 100, 3) := by decide +kernel
theorem dX9_add_35 : decode cX9_add 35 = .ok (.invokestatic 62, 3) := by decide +kernel
theorem dX9_add_38 : decode cX9_add 38 = .ok (.ifCond .ne 6, 3) := by decide +kernel
theorem dX9_add_41 : decode cX9_add 41 = .ok (.bipush (-100), 2) := by decide +kernel
theorem dX9_add_43 : decode cX9_add 43 = .ok (.ireturn, 1) := by decide +kernel
theorem dX9_add_44 : decode cX9_add 44 = .ok (.aload_n 0, 1) := by decide +kernel
theorem dX9_add_45 : decode cX9_add 45 = .ok (.invokevirtual 102, 3) := by decide +kernel
theorem dX9_add_48 : decode cX9_add 48 = .ok (.bipush 25, 2) := by decide +kernel
theorem dX9_add_50 : decode cX9_add 50 = .ok (.iload_n 1, 1) := by decide +kernel
theorem dX9_add_51 : decode cX9_add 51 = .ok (.imul, 1) := by decide +kernel
theorem dX9_add_52 : decode cX9_add 52 = .ok (.iconst 4, 1) := by decide +kernel
theorem dX9_add_53 : decode cX9_add 53 = .ok (.iadd, 1) := by decide +kernel
theorem dX9_add_54 : decode cX9_add 54 = .ok (.iconst 4, 1) := by decide +kernel
theorem dX9_add_55 : decode cX9_add 55 = .ok (.iload_n 2, 1) := by decide +kernel
theorem dX9_add_56 : decode cX9_add 56 = .ok (.imul, 1) := by decide +kernel
theorem dX9_add_57 : decode cX9_add 57 = .ok (.iadd, 1) := by decide +kernel
theorem dX9_add_58 : decode cX9_add 58 = .ok (.iload_n 3, 1) := by decide +kernel
theorem dX9_add_59 : decode cX9_add 59 = .ok (.iadd, 1) := by decide +kernel
theorem dX9_add_60 : decode cX9_add 60 = .ok (.istore 5, 2) := by decide +kernel
theorem dX9_add_62 : decode cX9_add 62 = .ok (.aload_n 0, 1) := by decide +kernel
theorem dX9_add_63 : decode cX9_add 63 = .ok (.getfield 26, 3) := by decide +kernel
theorem dX9_add_66 : decode cX9_add 66 = .ok (.iload 5, 2) := by decide +kernel
theorem dX9_add_68 : decode cX9_add 68 = .ok (.iaload, 1) := by decide +kernel
theorem dX9_add_69 : decode cX9_add 69 = .ok (.istore 6, 2) := by decide +kernel
theorem dX9_add_71 : decode cX9_add 71 = .ok (.aload_n 0, 1) := by decide +kernel
theorem dX9_add_72 : decode cX9_add 72 = .ok (.getfield 26, 3) := by decide +kernel
theorem dX9_add_75 : decode cX9_add 75 = .ok (.iload 5, 2) := by decide +kernel
theorem dX9_add_77 : decode cX9_add 77 = .ok (.iload 4, 2) := by decide +kernel
theorem dX9_add_79 : decode cX9_add 79 = .ok (.iastore, 1) := by decide +kernel
theorem dX9_add_80 : decode cX9_add 80 = .ok (.iload 6, 2) := by decide +kernel
theorem dX9_add_82 : decode cX9_add 82 = .ok (.ireturn, 1) := by decide +kernel
theorem dX9_is_0 : decode cX9_is 0 = .ok (.aload_n 0, 1) := by decide +kernel
theorem dX9_is_1 : decode cX9_is 1 = .ok (.iload_n 1, 1) := by decide +kernel
theorem dX9_is_2 : decode cX9_is 2 = .ok (.invokevirtual 89, 3) := by decide +kernel
theorem dX9_is_5 : decode cX9_is 5 = .ok (.ifCond .eq 27, 3) := by decide +kernel
theorem dX9_is_8 : decode cX9_is 8 = .ok (.aload_n 0, 1) := by decide +kernel
theorem dX9_is_9 : decode cX9_is 9 = .ok (.iload_n 1, 1) := by decide +kernel
theorem dX9_is_10 : decode cX9_is 10 = .ok (.iload_n 2, 1) := by decide +kernel
theorem dX9_is_11 : decode cX9_is 11 = .ok (.invokevirtual 92, 3) := by decide +kernel
theorem dX9_is_14 : decode cX9_is 14 = .ok (.ifCond .eq 18, 3) := by decide +kernel
theorem dX9_is_17 : decode cX9_is 17 = .ok (.iload_n 3, 1) := by decide +kernel
theorem dX9_is_18 : decode cX9_is 18 = .ok (.i2l, 1) := by decide +kernel
theorem dX9_is_19 : decode cX9_is 19 = .ok (.ldc2_w 70, 3) := by decide +kernel
theorem dX9_is_22 : decode cX9_is 22 = .ok (.iload_n 1, 1) := by decide +kernel
theorem dX9_is_23 : decode cX9_is 23 = .ok (.iconst 1, 1) := by decide +kernel
theorem dX9_is_24 : decode cX9_is 24 = .ok (.isub, 1) := by decide +kernel
theorem dX9_is_25 : decode cX9_is 25 = .ok (.i2l, 1) := by decide +kernel
theorem dX9_is_26 : decode cX9_is 26 = .ok (.invokestatic 62, 3) := by decide +kernel
theorem dX9_is_29 : decode cX9_is 29 = .ok (.ifCond .ne 5, 3) := by decide +kernel
theorem dX9_is_32 : decode cX9_is 32 = .ok (.iconst (-1), 1) := by decide +kernel
theorem dX9_is_33 : decode cX9_is 33 = .ok (.ireturn, 1) := by decide +kernel
theorem dX9_is_34 : decode cX9_is 34 = .ok (.aload_n 0, 1) := by decide +kernel
theorem dX9_is_35 : decode cX9_is 35 = .ok (.invokevirtual 102, 3) := by decide +kernel
theorem dX9_is_38 : decode cX9_is 38 = .ok (.bipush 25, 2) := by decide +kernel
theorem dX9_is_40 : decode cX9_is 40 = .ok (.iload_n 1, 1) := by decide +kernel
theorem dX9_is_41 : decode cX9_is 41 = .ok (.imul, 1) := by decide +kernel
theorem dX9_is_42 : decode cX9_is 42 = .ok (.bipush 20, 2) := by decide +kernel
theorem dX9_is_44 : decode cX9_is 44 = .ok (.iadd, 1) := by decide +kernel
theorem dX9_is_45 : decode cX9_is 45 = .ok (.iload_n 2, 1) := by decide +kernel
theorem dX9_is_46 : decode cX9_is 46 = .ok (.iadd, 1) := by decide +kernel
theorem dX9_is_47 : decode cX9_is 47 = .ok (.istore 4, 2) := by decide +kernel
theorem dX9_is_49 : decode cX9_is 49 = .ok (.aload_n 0, 1) := by decide +kernel
theorem dX9_is_50 : decode cX9_is 50 = .ok (.getfield 26, 3) := by decide +kernel
theorem dX9_is_53 : decode cX9_is 53 = .ok (.iload 4, 2) := by decide +kernel
theorem dX9_is_55 : decode cX9_is 55 = .ok (.iaload, 1) := by decide +kernel
theorem dX9_is_56 : decode cX9_is 56 = .ok (.istore 5, 2) := by decide +kernel
theorem dX9_is_58 : decode cX9_is 58 = .ok (.aload_n 0, 1) := by decide +kernel
theorem dX9_is_59 : decode cX9_is 59 = .ok (.getfield 26, 3) := by decide +kernel
theorem dX9_is_62 : decode cX9_is 62 = .ok (.iload 4, 2) := by decide +kernel
theorem dX9_is_64 : decode cX9_is 64 = .ok (.iload_n 3, 1) := by decide +kernel
theorem dX9_is_65 : decode cX9_is 65 = .ok (.iastore, 1) := by decide +kernel
theorem dX9_is_66 : decode cX9_is 66 = .ok (.iload 5, 2) := by decide +kernel
theorem dX9_is_68 : decode cX9_is 68 = .ok (.ifCond .ge 8, 3) := by decide +kernel
theorem dX9_is_71 : decode cX9_is 71 = .ok (.bipush (-4), 2) := by decide +kernel
theorem dX9_is_73 : decode cX9_is 73 = .ok (.goto 5, 3) := by decide +kernel
theorem dX9_is_76 : decode cX9_is 76 = .ok (.iload 5, 2) := by decide +kernel
theorem dX9_is_78 : decode cX9_is 78 = .ok (.ireturn, 1) := by decide +kernel
theorem dX9_balls_0 : decode cX9_balls 0 = .ok (.aload_n 0, 1) := by decide +kernel
theorem dX9_balls_1 : decode cX9_balls 1 = .ok (.getfield 26, 3) := by decide +kernel
theorem dX9_balls_4 : decode cX9_balls 4 = .ok (.bipush 25, 2) := by decide +kernel
theorem dX9_balls_6 : decode cX9_balls 6 = .ok (.iload_n 1, 1) := by decide +kernel
theorem dX9_balls_7 : decode cX9_balls 7 = .ok (.imul, 1) := by decide +kernel
theorem dX9_balls_8 : decode cX9_balls 8 = .ok (.iaload, 1) := by decide +kernel
theorem dX9_balls_9 : decode cX9_balls 9 = .ok (.aload_n 0, 1) := by decide +kernel
theorem dX9_balls_10 : decode cX9_balls 10 = .ok (.getfield 26, 3) := by decide +kernel
theorem dX9_balls_13 : decode cX9_balls 13 = .ok (.bipush 25, 2) := by decide +kernel
theorem dX9_balls_15 : decode cX9_balls 15 = .ok (.iload_n 1, 1) := by decide +kernel
theorem dX9_balls_16 : decode cX9_balls 16 = .ok (.imul, 1) := by decide +kernel
theorem dX9_balls_17 : decode cX9_balls 17 = .ok (.iconst 1, 1) := by decide +kernel
theorem dX9_balls_18 : decode cX9_balls 18 = .ok (.iadd, 1) := by decide +kernel
theorem dX9_balls_19 : decode cX9_balls 19 = .ok (.iaload, 1) := by decide +kernel
theorem dX9_balls_20 : decode cX9_balls 20 = .ok (.iadd, 1) := by decide +kernel
theorem dX9_balls_21 : decode cX9_balls 21 = .ok (.aload_n 0, 1) := by decide +kernel
theorem dX9_balls_22 : decode cX9_balls 22 = .ok (.getfield 26, 3) := by decide +kernel
theorem dX9_balls_25 : decode cX9_balls 25 = .ok (.bipush 25, 2) := by decide +kernel
theorem dX9_balls_27 : decode cX9_balls 27 = .ok (.iload_n 1, 1) := by decide +kernel
theorem dX9_balls_28 : decode cX9_balls 28 = .ok (.imul, 1) := by decide +kernel
theorem dX9_balls_29 : decode cX9_balls 29 = .ok (.iconst 2, 1) := by decide +kernel
theorem dX9_balls_30 : decode cX9_balls 30 = .ok (.iadd, 1) := by decide +kernel
theorem dX9_balls_31 : decode cX9_balls 31 = .ok (.iaload, 1) := by decide +kernel
theorem dX9_balls_32 : decode cX9_balls 32 = .ok (.iadd, 1) := by decide +kernel
theorem dX9_balls_33 : decode cX9_balls 33 = .ok (.aload_n 0, 1) := by decide +kernel
theorem dX9_balls_34 : decode cX9_balls 34 = .ok (.getfield 26, 3) := by decide +kernel
theorem dX9_balls_37 : decode cX9_balls 37 = .ok (.bipush 25, 2) := by decide +kernel
theorem dX9_balls_39 : decode cX9_balls 39 = .ok (.iload_n 1, 1) := by decide +kernel
theorem dX9_balls_40 : decode cX9_balls 40 = .ok (.imul, 1) := by decide +kernel
theorem dX9_balls_41 : decode cX9_balls 41 = .ok (.iconst 3, 1) := by decide +kernel
theorem dX9_balls_42 : decode cX9_balls 42 = .ok (.iadd, 1) := by decide +kernel
theorem dX9_balls_43 : decode cX9_balls 43 = .ok (.iaload, 1) := by decide +kernel
theorem dX9_balls_44 : decode cX9_balls 44 = .ok (.iadd, 1) := by decide +kernel
theorem dX9_balls_45 : decode cX9_balls 45 = .ok (.ireturn, 1) := by decide +kernel
theorem dX9_addedSum_0 : decode cX9_addedSum 0 = .ok (.iconst 0, 1) := by decide +kernel
theorem dX9_addedSum_1 : decode cX9_addedSum 1 = .ok (.istore_n 3, 1) := by decide +kernel
theorem dX9_addedSum_2 : decode cX9_addedSum 2 = .ok (.iconst 0, 1) := by decide +kernel
theorem dX9_addedSum_3 : decode cX9_addedSum 3 = .ok (.istore 4, 2) := by decide +kernel
theorem dX9_addedSum_5 : decode cX9_addedSum 5 = .ok (.iload 4, 2) := by decide +kernel
theorem dX9_addedSum_7 : decode cX9_addedSum 7 = .ok (.iconst 4, 1) := by decide +kernel
theorem dX9_addedSum_8 : decode cX9_addedSum 8 = .ok (.if_icmp .ge 30, 3) := by decide +kernel
theorem dX9_addedSum_11 : decode cX9_addedSum 11 = .ok (.iload_n 3, 1) := by decide +kernel
theorem dX9_addedSum_12 : decode cX9_addedSum 12 = .ok (.aload_n 0, 1) := by decide +kernel
theorem dX9_addedSum_13 : decode cX9_addedSum 13 = .ok (.getfield 26, 3) := by decide +kernel
theorem dX9_addedSum_16 : decode cX9_addedSum 16 = .ok (.bipush 25, 2) := by decide +kernel
theorem dX9_addedSum_18 : decode cX9_addedSum 18 = .ok (.iload_n 1, 1) := by decide +kernel
theorem dX9_addedSum_19 : decode cX9_addedSum 19 = .ok (.imul, 1) := by decide +kernel
theorem dX9_addedSum_20 : decode cX9_addedSum 20 = .ok (.iconst 4, 1) := by decide +kernel
theorem dX9_addedSum_21 : decode cX9_addedSum 21 = .ok (.iadd, 1) := by decide +kernel
theorem dX9_addedSum_22 : decode cX9_addedSum 22 = .ok (.iconst 4, 1) := by decide +kernel
theorem dX9_addedSum_23 : decode cX9_addedSum 23 = .ok (.iload_n 2, 1) := by decide +kernel
theorem dX9_addedSum_24 : decode cX9_addedSum 24 = .ok (.imul, 1) := by decide +kernel
theorem dX9_addedSum_25 : decode cX9_addedSum 25 = .ok (.iadd, 1) := by decide +kernel
theorem dX9_addedSum_26 : decode cX9_addedSum 26 = .ok (.iload 4, 2) := by decide +kernel
theorem dX9_addedSum_28 : decode cX9_addedSum 28 = .ok (.iadd, 1) := by decide +kernel
theorem dX9_addedSum_29 : decode cX9_addedSum 29 = .ok (.iaload, 1) := by decide +kernel
theorem dX9_addedSum_30 : decode cX9_addedSum 30 = .ok (.iadd, 1) := by decide +kernel
theorem dX9_addedSum_31 : decode cX9_addedSum 31 = .ok (.istore_n 3, 1) := by decide +kernel
theorem dX9_addedSum_32 : decode cX9_addedSum 32 = .ok (.iinc 4 1, 3) := by decide +kernel
theorem dX9_addedSum_35 : decode cX9_addedSum 35 = .ok (.goto (-30), 3) := by decide +kernel
theorem dX9_addedSum_38 : decode cX9_addedSum 38 = .ok (.iload_n 3, 1) := by decide +kernel
theorem dX9_addedSum_39 : decode cX9_addedSum 39 = .ok (.ireturn, 1) := by decide +kernel
theorem dX9_isEven_0 : decode cX9_isEven 0 = .ok (.iconst 1, 1) := by decide +kernel
theorem dX9_isEven_1 : decode cX9_isEven 1 = .ok (.istore_n 2, 1) := by decide +kernel
theorem dX9_isEven_2 : decode cX9_isEven 2 = .ok (.iconst 1, 1) := by decide +kernel
theorem dX9_isEven_3 : decode cX9_isEven 3 = .ok (.istore_n 3, 1) := by decide +kernel
theorem dX9_isEven_4 : decode cX9_isEven 4 = .ok (.iload_n 3, 1) := by decide +kernel
theorem dX9_isEven_5 : decode cX9_isEven 5 = .ok (.aload_n 0, 1) := by decide +kernel
theorem dX9_isEven_6 : decode cX9_isEven 6 = .ok (.getfield 23, 3) := by decide +kernel
theorem dX9_isEven_9 : decode cX9_isEven 9 = .ok (.iload_n 1, 1) := by decide +kernel
theorem dX9_isEven_10 : decode cX9_isEven 10 = .ok (.iaload, 1) := by decide +kernel
theorem dX9_isEven_11 : decode cX9_isEven 11 = .ok (.if_icmp .ge 34, 3) := by decide +kernel
theorem dX9_isEven_14 : decode cX9_isEven 14 = .ok (.iload_n 2, 1) := by decide +kernel
theorem dX9_isEven_15 : decode cX9_isEven 15 = .ok (.ifCond .eq 22, 3) := by decide +kernel
theorem dX9_isEven_18 : decode cX9_isEven 18 = .ok (.aload_n 0, 1) := by decide +kernel
theorem dX9_isEven_19 : decode cX9_isEven 19 = .ok (.iload_n 1, 1) := by decide +kernel
theorem dX9_isEven_20 : decode cX9_isEven 20 = .ok (.iload_n 3, 1) := by decide +kernel
theorem dX9_isEven_21 : decode cX9_isEven 21 = .ok (.invokevirtual 107, 3) := by decide +kernel
theorem dX9_isEven_24 : decode cX9_isEven 24 = .ok (.aload_n 0, 1) := by decide +kernel
theorem dX9_isEven_25 : decode cX9_isEven 25 = .ok (.iload_n 1, 1) := by decide +kernel
theorem dX9_isEven_26 : decode cX9_isEven 26 = .ok (.iconst 0, 1) := by decide +kernel
theorem dX9_isEven_27 : decode cX9_isEven 27 = .ok (.invokevirtual 107, 3) := by decide +kernel
theorem dX9_isEven_30 : decode cX9_isEven 30 = .ok (.if_icmp .ne 7, 3) := by decide +kernel
theorem dX9_isEven_33 : decode cX9_isEven 33 = .ok (.iconst 1, 1) := by decide +kernel
theorem dX9_isEven_34 : decode cX9_isEven 34 = .ok (.goto 4, 3) := by decide +kernel
theorem dX9_isEven_37 : decode cX9_isEven 37 = .ok (.iconst 0, 1) := by decide +kernel
theorem dX9_isEven_38 : decode cX9_isEven 38 = .ok (.istore_n 2, 1) := by decide +kernel
theorem dX9_isEven_39 : decode cX9_isEven 39 = .ok (.iinc 3 1, 3) := by decide +kernel
theorem dX9_isEven_42 : decode cX9_isEven 42 = .ok (.goto (-38), 3) := by decide +kernel
theorem dX9_isEven_45 : decode cX9_isEven 45 = .ok (.iload_n 2, 1) := by decide +kernel
theorem dX9_isEven_46 : decode cX9_isEven 46 = .ok (.ireturn, 1) := by decide +kernel
theorem dX9_isLike_0 : decode cX9_isLike 0 = .ok (.aload_n 0, 1) := by decide +kernel
theorem dX9_isLike_1 : decode cX9_isLike 1 = .ok (.iload_n 1, 1) := by decide +kernel
theorem dX9_isLike_2 : decode cX9_isLike 2 = .ok (.invokevirtual 110, 3) := by decide +kernel
theorem dX9_isLike_5 : decode cX9_isLike 5 = .ok (.ifCond .eq 16, 3) := by decide +kernel
theorem dX9_isLike_8 : decode cX9_isLike 8 = .ok (.aload_n 0, 1) := by decide +kernel
theorem dX9_isLike_9 : decode cX9_isLike 9 = .ok (.iload_n 1, 1) := by decide +kernel
theorem dX9_isLike_10 : decode cX9_isLike 10 = .ok (.iconst 0, 1) := by decide +kernel
theorem dX9_isLike_11 : decode cX9_isLike 11 = .ok (.invokevirtual 107, 3) := by decide +kernel
theorem dX9_isLike_14 : decode cX9_isLike 14 = .ok (.ifCond .lt 7, 3) := by decide +kernel
theorem dX9_isLike_17 : decode cX9_isLike 17 = .ok (.iconst 1, 1) := by decide +kernel
theorem dX9_isLike_18 : decode cX9_isLike 18 = .ok (.goto 4, 3) := by decide +kernel
theorem dX9_isLike_21 : decode cX9_isLike 21 = .ok (.iconst 0, 1) := by decide +kernel
theorem dX9_isLike_22 : decode cX9_isLike 22 = .ok (.istore_n 2, 1) := by decide +kernel
theorem dX9_isLike_23 : decode cX9_isLike 23 = .ok (.iconst 0, 1) := by decide +kernel
theorem dX9_isLike_24 : decode cX9_isLike 24 = .ok (.istore_n 3, 1) := by decide +kernel
theorem dX9_isLike_25 : decode cX9_isLike 25 = .ok (.iload_n 3, 1) := by decide +kernel
theorem dX9_isLike_26 : decode cX9_isLike 26 = .ok (.iconst 4, 1) := by decide +kernel
theorem dX9_isLike_27 : decode cX9_isLike 27 = .ok (.if_icmp .ge 61, 3) := by decide +kernel
theorem dX9_isLike_30 : decode cX9_isLike 30 = .ok (.iconst 0, 1) := by decide +kernel
theorem dX9_isLike_31 : decode cX9_isLike 31 = .ok (.istore 4, 2) := by decide +kernel
theorem dX9_isLike_33 : decode cX9_isLike 33 = .ok (.iload 4, 2) := by decide +kernel
theorem dX9_isLike_35 : decode cX9_isLike 35 = .ok (.iconst 4, 1) := by decide +kernel
theorem dX9_isLike_36 : decode cX9_isLike 36 = .ok (.if_icmp .ge 46, 3) := by decide +kernel
theorem dX9_isLike_39 : decode cX9_isLike 39 = .ok (.iload_n 2, 1) := by decide +kernel
theorem dX9_isLike_40 : decode cX9_isLike 40 = .ok (.ifCond .eq 34, 3) := by decide +kernel
theorem dX9_isLike_43 : decode cX9_isLike 43 = .ok (.iload_n 3, 1) := by decide +kernel
theorem dX9_isLike_44 : decode cX9_isLike 44 = .ok (.iload 4, 2) := by decide +kernel
theorem dX9_isLike_46 : decode cX9_isLike 46 = .ok (.if_icmp .eq 24, 3) := by decide +kernel
theorem dX9_isLike_49 : decode cX9_isLike 49 = .ok (.aload_n 0, 1) := by decide +kernel
theorem dX9_isLike_50 : decode cX9_isLike 50 = .ok (.getfield 26, 3) := by decide +kernel
theorem dX9_isLike_53 : decode cX9_isLike 53 = .ok (.bipush 25, 2) := by decide +kernel
theorem dX9_isLike_55 : decode cX9_isLike 55 = .ok (.iload_n 1, 1) := by decide +kernel
theorem dX9_isLike_56 : decode cX9_isLike 56 = .ok (.imul, 1) := by decide +kernel
theorem dX9_isLike_57 : decode cX9_isLike 57 = .ok (.iconst 4, 1) := by decide +kernel
theorem dX9_isLike_58 : decode cX9_isLike 58 = .ok (.iadd, 1) := by decide +kernel
theorem dX9_isLike_59 : decode cX9_isLike 59 = .ok (.iconst 4, 1) := by decide +kernel
theorem dX9_isLike_60 : decode cX9_isLike 60 = .ok (.iload_n 3, 1) := by decide +kernel
theorem dX9_isLike_61 : decode cX9_isLike 61 = .ok (.imul, 1) := by decide +kernel
theorem dX9_isLike_62 : decode cX9_isLike 62 = .ok (.iadd, 1) := by decide +kernel
theorem dX9_isLike_63 : decode cX9_isLike 63 = .ok (.iload 4, 2) := by decide +kernel
theorem dX9_isLike_65 : decode cX9_isLike 65 = .ok (.iadd, 1) := by decide +kernel
theorem dX9_isLike_66 : decode cX9_isLike 66 = .ok (.iaload, 1) := by decide +kernel
theorem dX9_isLike_67 : decode cX9_isLike 67 = .ok (.ifCond .ne 7, 3) := by decide +kernel
theorem dX9_isLike_70 : decode cX9_isLike 70 = .ok (.iconst 1, 1) := by decide +kernel
theorem dX9_isLike_71 : decode cX9_isLike 71 = .ok (.goto 4, 3) := by decide +kernel
theorem dX9_isLike_74 : decode cX9_isLike 74 = .ok (.iconst 0, 1) := by decide +kernel
theorem dX9_isLike_75 : decode cX9_isLike 75 = .ok (.istore_n 2, 1) := by decide +kernel
theorem dX9_isLike_76 : decode cX9_isLike 76 = .ok (.iinc 4 1, 3) := by decide +kernel
theorem dX9_isLike_79 : decode cX9_isLike 79 = .ok (.goto (-46), 3) := by decide +kernel
theorem dX9_isLike_82 : decode cX9_isLike 82 = .ok (.iinc 3 1, 3) := by decide +kernel
theorem dX9_isLike_85 : decode cX9_isLike 85 = .ok (.goto (-60), 3) := by decide +kernel
theorem dX9_isLike_88 : decode cX9_isLike 88 = .ok (.iload_n 2, 1) := by decide +kernel
theorem dX9_isLike_89 : decode cX9_isLike 89 = .ok (.ireturn, 1) := by decide +kernel
theorem dX9_about_0 : decode cX9_about 0 = .ok (.aload_n 0, 1) := by decide +kernel
theorem dX9_about_1 : decode cX9_about 1 = .ok (.iload_n 1, 1) := by decide +kernel
theorem dX9_about_2 : decode cX9_about 2 = .ok (.invokevirtual 89, 3) := by decide +kernel
theorem dX9_about_5 : decode cX9_about 5 = .ok (.ifCond .eq 21, 3) := by decide +kernel
theorem dX9_about_8 : decode cX9_about 8 = .ok (.iload_n 2, 1) := by decide +kernel
theorem dX9_about_9 : decode cX9_about 9 = .ok (.i2l, 1) := by decide +kernel
theorem dX9_about_10 : decode cX9_about 10 = .ok (.lconst 0, 1) := by decide +kernel
theorem dX9_about_11 : decode cX9_about 11 = .ok (.iconst 5, 1) := by decide +kernel
theorem dX9_about_12 : decode cX9_about 12 = .ok (.aload_n 0, 1) := by decide +kernel
theorem dX9_about_13 : decode cX9_about 13 = .ok (.getfield 23, 3) := by decide +kernel
theorem dX9_about_16 : decode cX9_about 16 = .ok (.iload_n 1, 1) := by decide +kernel
theorem dX9_about_17 : decode cX9_about 17 = .ok (.iaload, 1) := by decide +kernel
theorem dX9_about_18 : decode cX9_about 18 = .ok (.iadd, 1) := by decide +kernel
theorem dX9_about_19 : decode cX9_about 19 = .ok (.i2l, 1) := by decide +kernel
theorem dX9_about_20 : decode cX9_about 20 = .ok (.invokestatic 62, 3) := by decide +kernel
theorem dX9_about_23 : decode cX9_about 23 = .ok (.ifCond .ne 7, 3) := by decide +kernel
theorem dX9_about_26 : decode cX9_about 26 = .ok (.sipush (-1000), 3) := by decide +kernel
theorem dX9_about_29 : decode cX9_about 29 = .ok (.ireturn, 1) := by decide +kernel
theorem dX9_about_30 : decode cX9_about 30 = .ok (.iload_n 2, 1) := by decide +kernel
theorem dX9_about_31 : decode cX9_about 31 = .ok (.tableswitch 110 0 5 #[37, 44, 50, 63, 77, 96], 37) := by decide +kernel
theorem dX9_about_68 : decode cX9_about 68 = .ok (.aload_n 0, 1) := by decide +kernel
theorem dX9_about_69 : decode cX9_about 69 = .ok (.getfield 23, 3) := by decide +kernel
theorem dX9_about_72 : decode cX9_about 72 = .ok (.iload_n 1, 1) := by decide +kernel
theorem dX9_about_73 : decode cX9_about 73 = .ok (.iaload, 1) := by decide +kernel
theorem dX9_about_74 : decode cX9_about 74 = .ok (.ireturn, 1) := by decide +kernel
theorem dX9_about_75 : decode cX9_about 75 = .ok (.aload_n 0, 1) := by decide +kernel
theorem dX9_about_76 : decode cX9_about 76 = .ok (.iload_n 1, 1) := by decide +kernel
theorem dX9_about_77 : decode cX9_about 77 = .ok (.invokevirtual 113, 3) := by decide +kernel
theorem dX9_about_80 : decode cX9_about 80 = .ok (.ireturn, 1) := by decide +kernel
theorem dX9_about_81 : decode cX9_about 81 = .ok (.aload_n 0, 1) := by decide +kernel
theorem dX9_about_82 : decode cX9_about 82 = .ok (.getfield 26, 3) := by decide +kernel
theorem dX9_about_85 : decode cX9_about 85 = .ok (.bipush 25, 2) := by decide +kernel
theorem dX9_about_87 : decode cX9_about 87 = .ok (.iload_n 1, 1) := by decide +kernel
theorem dX9_about_88 : decode cX9_about 88 = .ok (.imul, 1) := by decide +kernel
theorem dX9_about_89 : decode cX9_about 89 = .ok (.bipush 24, 2) := by decide +kernel
theorem dX9_about_91 : decode cX9_about 91 = .ok (.iadd, 1) := by decide +kernel
theorem dX9_about_92 : decode cX9_about 92 = .ok (.iaload, 1) := by decide +kernel
theorem dX9_about_93 : decode cX9_about 93 = .ok (.ireturn, 1) := by decide +kernel
theorem dX9_about_94 : decode cX9_about 94 = .ok (.aload_n 0, 1) := by decide +kernel
theorem dX9_about_95 : decode cX9_about 95 = .ok (.iload_n 1, 1) := by decide +kernel
theorem dX9_about_96 : decode cX9_about 96 = .ok (.invokevirtual 110, 3) := by decide +kernel
theorem dX9_about_99 : decode cX9_about 99 = .ok (.ifCond .eq 7, 3) := by decide +kernel
theorem dX9_about_102 : decode cX9_about 102 = .ok (.iconst 1, 1) := by decide +kernel
theorem dX9_about_103 : decode cX9_about 103 = .ok (.goto 4, 3) := by decide +kernel
theorem dX9_about_106 : decode cX9_about 106 = .ok (.iconst 0, 1) := by decide +kernel
theorem dX9_about_107 : decode cX9_about 107 = .ok (.ireturn, 1) := by decide +kernel
theorem dX9_about_108 : decode cX9_about 108 = .ok (.aload_n 0, 1) := by decide +kernel
theorem dX9_about_109 : decode cX9_about 109 = .ok (.iload_n 1, 1) := by decide +kernel
theorem dX9_about_110 : decode cX9_about 110 = .ok (.invokevirtual 110, 3) := by decide +kernel
theorem dX9_about_113 : decode cX9_about 113 = .ok (.ifCond .eq 12, 3) := by decide +kernel
theorem dX9_about_116 : decode cX9_about 116 = .ok (.aload_n 0, 1) := by decide +kernel
theorem dX9_about_117 : decode cX9_about 117 = .ok (.iload_n 1, 1) := by decide +kernel
theorem dX9_about_118 : decode cX9_about 118 = .ok (.iconst 0, 1) := by decide +kernel
theorem dX9_about_119 : decode cX9_about 119 = .ok (.invokevirtual 107, 3) := by decide +kernel
theorem dX9_about_122 : decode cX9_about 122 = .ok (.goto 4, 3) := by decide +kernel
theorem dX9_about_125 : decode cX9_about 125 = .ok (.iconst 0, 1) := by decide +kernel
theorem dX9_about_126 : decode cX9_about 126 = .ok (.ireturn, 1) := by decide +kernel
theorem dX9_about_127 : decode cX9_about 127 = .ok (.aload_n 0, 1) := by decide +kernel
theorem dX9_about_128 : decode cX9_about 128 = .ok (.iload_n 1, 1) := by decide +kernel
theorem dX9_about_129 : decode cX9_about 129 = .ok (.invokevirtual 117, 3) := by decide +kernel
theorem dX9_about_132 : decode cX9_about 132 = .ok (.ifCond .eq 7, 3) := by decide +kernel
theorem dX9_about_135 : decode cX9_about 135 = .ok (.iconst 1, 1) := by decide +kernel
theorem dX9_about_136 : decode cX9_about 136 = .ok (.goto 4, 3) := by decide +kernel
theorem dX9_about_139 : decode cX9_about 139 = .ok (.iconst 0, 1) := by decide +kernel
theorem dX9_about_140 : decode cX9_about 140 = .ok (.ireturn, 1) := by decide +kernel
theorem dX9_about_141 : decode cX9_about 141 = .ok (.aload_n 0, 1) := by decide +kernel
theorem dX9_about_142 : decode cX9_about 142 = .ok (.getfield 26, 3) := by decide +kernel
theorem dX9_about_145 : decode cX9_about 145 = .ok (.bipush 25, 2) := by decide +kernel
theorem dX9_about_147 : decode cX9_about 147 = .ok (.iload_n 1, 1) := by decide +kernel
theorem dX9_about_148 : decode cX9_about 148 = .ok (.imul, 1) := by decide +kernel
theorem dX9_about_149 : decode cX9_about 149 = .ok (.iload_n 2, 1) := by decide +kernel
theorem dX9_about_150 : decode cX9_about 150 = .ok (.iadd, 1) := by decide +kernel
theorem dX9_about_151 : decode cX9_about 151 = .ok (.bipush 6, 2) := by decide +kernel
theorem dX9_about_153 : decode cX9_about 153 = .ok (.isub, 1) := by decide +kernel
theorem dX9_about_154 : decode cX9_about 154 = .ok (.iaload, 1) := by decide +kernel
theorem dX9_about_155 : decode cX9_about 155 = .ok (.ireturn, 1) := by decide +kernel
theorem dX9_added_0 : decode cX9_added 0 = .ok (.aload_n 0, 1) := by decide +kernel
theorem dX9_added_1 : decode cX9_added 1 = .ok (.iload_n 1, 1) := by decide +kernel
theorem dX9_added_2 : decode cX9_added 2 = .ok (.invokevirtual 89, 3) := by decide +kernel
theorem dX9_added_5 : decode cX9_added 5 = .ok (.ifCond .eq 41, 3) := by decide +kernel
theorem dX9_added_8 : decode cX9_added 8 = .ok (.aload_n 0, 1) := by decide +kernel
theorem dX9_added_9 : decode cX9_added 9 = .ok (.iload_n 1, 1) := by decide +kernel
theorem dX9_added_10 : decode cX9_added 10 = .ok (.iload_n 2, 1) := by decide +kernel
theorem dX9_added_11 : decode cX9_added 11 = .ok (.invokevirtual 92, 3) := by decide +kernel
theorem dX9_added_14 : decode cX9_added 14 = .ok (.ifCond .eq 32, 3) := by decide +kernel
theorem dX9_added_17 : decode cX9_added 17 = .ok (.aload_n 0, 1) := by decide +kernel
theorem dX9_added_18 : decode cX9_added 18 = .ok (.iload_n 1, 1) := by decide +kernel
theorem dX9_added_19 : decode cX9_added 19 = .ok (.iload_n 3, 1) := by decide +kernel
theorem dX9_added_20 : decode cX9_added 20 = .ok (.invokevirtual 92, 3) := by decide +kernel
theorem dX9_added_23 : decode cX9_added 23 = .ok (.ifCond .eq 23, 3) := by decide +kernel
theorem dX9_added_26 : decode cX9_added 26 = .ok (.aload_n 0, 1) := by decide +kernel
theorem dX9_added_27 : decode cX9_added 27 = .ok (.getfield 26, 3) := by decide +kernel
theorem dX9_added_30 : decode cX9_added 30 = .ok (.bipush 25, 2) := by decide +kernel
theorem dX9_added_32 : decode cX9_added 32 = .ok (.iload_n 1, 1) := by decide +kernel
theorem dX9_added_33 : decode cX9_added 33 = .ok (.imul, 1) := by decide +kernel
theorem dX9_added_34 : decode cX9_added 34 = .ok (.iconst 4, 1) := by decide +kernel
theorem dX9_added_35 : decode cX9_added 35 = .ok (.iadd, 1) := by decide +kernel
theorem dX9_added_36 : decode cX9_added 36 = .ok (.iconst 4, 1) := by decide +kernel
theorem dX9_added_37 : decode cX9_added 37 = .ok (.iload_n 2, 1) := by decide +kernel
theorem dX9_added_38 : decode cX9_added 38 = .ok (.imul, 1) := by decide +kernel
theorem dX9_added_39 : decode cX9_added 39 = .ok (.iadd, 1) := by decide +kernel
theorem dX9_added_40 : decode cX9_added 40 = .ok (.iload_n 3, 1) := by decide +kernel
theorem dX9_added_41 : decode cX9_added 41 = .ok (.iadd, 1) := by decide +kernel
theorem dX9_added_42 : decode cX9_added 42 = .ok (.iaload, 1) := by decide +kernel
theorem dX9_added_43 : decode cX9_added 43 = .ok (.goto 5, 3) := by decide +kernel
theorem dX9_added_46 : decode cX9_added 46 = .ok (.bipush (-100), 2) := by decide +kernel
theorem dX9_added_48 : decode cX9_added 48 = .ok (.ireturn, 1) := by decide +kernel
theorem dX9_canDraw_0 : decode cX9_canDraw 0 = .ok (.aload_n 0, 1) := by decide +kernel
theorem dX9_canDraw_1 : decode cX9_canDraw 1 = .ok (.getfield 26, 3) := by decide +kernel
theorem dX9_canDraw_4 : decode cX9_canDraw 4 = .ok (.bipush 25, 2) := by decide +kernel
theorem dX9_canDraw_6 : decode cX9_canDraw 6 = .ok (.iload_n 1, 1) := by decide +kernel
theorem dX9_canDraw_7 : decode cX9_canDraw 7 = .ok (.imul, 1) := by decide +kernel
theorem dX9_canDraw_8 : decode cX9_canDraw 8 = .ok (.iload_n 2, 1) := by decide +kernel
theorem dX9_canDraw_9 : decode cX9_canDraw 9 = .ok (.iadd, 1) := by decide +kernel
theorem dX9_canDraw_10 : decode cX9_canDraw 10 = .ok (.iaload, 1) := by decide +kernel
theorem dX9_canDraw_11 : decode cX9_canDraw 11 = .ok (.ifCond .le 7, 3) := by decide +kernel
theorem dX9_canDraw_14 : decode cX9_canDraw 14 = .ok (.iconst 1, 1) := by decide +kernel
theorem dX9_canDraw_15 : decode cX9_canDraw 15 = .ok (.goto 4, 3) := by decide +kernel
theorem dX9_canDraw_18 : decode cX9_canDraw 18 = .ok (.iconst 0, 1) := by decide +kernel
theorem dX9_canDraw_19 : decode cX9_canDraw 19 = .ok (.istore_n 3, 1) := by decide +kernel
theorem dX9_canDraw_20 : decode cX9_canDraw 20 = .ok (.iconst 0, 1) := by decide +kernel
theorem dX9_canDraw_21 : decode cX9_canDraw 21 = .ok (.istore 4, 2) := by decide +kernel
theorem dX9_canDraw_23 : decode cX9_canDraw 23 = .ok (.iload 4, 2) := by decide +kernel
theorem dX9_canDraw_25 : decode cX9_canDraw 25 = .ok (.iconst 4, 1) := by decide +kernel
theorem dX9_canDraw_26 : decode cX9_canDraw 26 = .ok (.if_icmp .ge 61, 3) := by decide +kernel
theorem dX9_canDraw_29 : decode cX9_canDraw 29 = .ok (.iload_n 3, 1) := by decide +kernel
theorem dX9_canDraw_30 : decode cX9_canDraw 30 = .ok (.ifCond .eq 49, 3) := by decide +kernel
theorem dX9_canDraw_33 : decode cX9_canDraw 33 = .ok (.aload_n 0, 1) := by decide +kernel
theorem dX9_canDraw_34 : decode cX9_canDraw 34 = .ok (.getfield 26, 3) := by decide +kernel
theorem dX9_canDraw_37 : decode cX9_canDraw 37 = .ok (.bipush 25, 2) := by decide +kernel
theorem dX9_canDraw_39 : decode cX9_canDraw 39 = .ok (.iload_n 1, 1) := by decide +kernel
theorem dX9_canDraw_40 : decode cX9_canDraw 40 = .ok (.imul, 1) := by decide +kernel
theorem dX9_canDraw_41 : decode cX9_canDraw 41 = .ok (.iload 4, 2) := by decide +kernel
theorem dX9_canDraw_43 : decode cX9_canDraw 43 = .ok (.iadd, 1) := by decide +kernel
theorem dX9_canDraw_44 : decode cX9_canDraw 44 = .ok (.iaload, 1) := by decide +kernel
theorem dX9_canDraw_45 : decode cX9_canDraw 45 = .ok (.aload_n 0, 1) := by decide +kernel
theorem dX9_canDraw_46 : decode cX9_canDraw 46 = .ok (.getfield 26, 3) := by decide +kernel
theorem dX9_canDraw_49 : decode cX9_canDraw 49 = .ok (.bipush 25, 2) := by decide +kernel
theorem dX9_canDraw_51 : decode cX9_canDraw 51 = .ok (.iload_n 1, 1) := by decide +kernel
theorem dX9_canDraw_52 : decode cX9_canDraw 52 = .ok (.imul, 1) := by decide +kernel
theorem dX9_canDraw_53 : decode cX9_canDraw 53 = .ok (.iconst 4, 1) := by decide +kernel
theorem dX9_canDraw_54 : decode cX9_canDraw 54 = .ok (.iadd, 1) := by decide +kernel
theorem dX9_canDraw_55 : decode cX9_canDraw 55 = .ok (.iconst 4, 1) := by decide +kernel
theorem dX9_canDraw_56 : decode cX9_canDraw 56 = .ok (.iload_n 2, 1) := by decide +kernel
theorem dX9_canDraw_57 : decode cX9_canDraw 57 = .ok (.imul, 1) := by decide +kernel
theorem dX9_canDraw_58 : decode cX9_canDraw 58 = .ok (.iadd, 1) := by decide +kernel
theorem dX9_canDraw_59 : decode cX9_canDraw 59 = .ok (.iload 4, 2) := by decide +kernel
theorem dX9_canDraw_61 : decode cX9_canDraw 61 = .ok (.iadd, 1) := by decide +kernel
theorem dX9_canDraw_62 : decode cX9_canDraw 62 = .ok (.iaload, 1) := by decide +kernel
theorem dX9_canDraw_63 : decode cX9_canDraw 63 = .ok (.iadd, 1) := by decide +kernel
theorem dX9_canDraw_64 : decode cX9_canDraw 64 = .ok (.i2l, 1) := by decide +kernel
theorem dX9_canDraw_65 : decode cX9_canDraw 65 = .ok (.lconst 0, 1) := by decide +kernel
theorem dX9_canDraw_66 : decode cX9_canDraw 66 = .ok (.ldc2_w 98, 3) := by decide +kernel
theorem dX9_canDraw_69 : decode cX9_canDraw 69 = .ok (.invokestatic 62, 3) := by decide +kernel
theorem dX9_canDraw_72 : decode cX9_canDraw 72 = .ok (.ifCond .eq 7, 3) := by decide +kernel
theorem dX9_canDraw_75 : decode cX9_canDraw 75 = .ok (.iconst 1, 1) := by decide +kernel
theorem dX9_canDraw_76 : decode cX9_canDraw 76 = .ok (.goto 4, 3) := by decide +kernel
theorem dX9_canDraw_79 : decode cX9_canDraw 79 = .ok (.iconst 0, 1) := by decide +kernel
theorem dX9_canDraw_80 : decode cX9_canDraw 80 = .ok (.istore_n 3, 1) := by decide +kernel
theorem dX9_canDraw_81 : decode cX9_canDraw 81 = .ok (.iinc 4 1, 3) := by decide +kernel
theorem dX9_canDraw_84 : decode cX9_canDraw 84 = .ok (.goto (-61), 3) := by decide +kernel
theorem dX9_canDraw_87 : decode cX9_canDraw 87 = .ok (.iload_n 3, 1) := by decide +kernel
theorem dX9_canDraw_88 : decode cX9_canDraw 88 = .ok (.ireturn, 1) := by decide +kernel
theorem dX9_draws_0 : decode cX9_draws 0 = .ok (.iconst 0, 1) := by decide +kernel
theorem dX9_draws_1 : decode cX9_draws 1 = .ok (.istore_n 3, 1) := by decide +kernel
theorem dX9_draws_2 : decode cX9_draws 2 = .ok (.iload_n 3, 1) := by decide +kernel
theorem dX9_draws_3 : decode cX9_draws 3 = .ok (.iconst 4, 1) := by decide +kernel
theorem dX9_draws_4 : decode cX9_draws 4 = .ok (.if_icmp .ge 40, 3) := by decide +kernel
theorem dX9_draws_7 : decode cX9_draws 7 = .ok (.aload_n 0, 1) := by decide +kernel
theorem dX9_draws_8 : decode cX9_draws 8 = .ok (.getfield 26, 3) := by decide +kernel
theorem dX9_draws_11 : decode cX9_draws 11 = .ok (.bipush 25, 2) := by decide +kernel
theorem dX9_draws_13 : decode cX9_draws 13 = .ok (.iload_n 1, 1) := by decide +kernel
theorem dX9_draws_14 : decode cX9_draws 14 = .ok (.imul, 1) := by decide +kernel
theorem dX9_draws_15 : decode cX9_draws 15 = .ok (.iload_n 3, 1) := by decide +kernel
theorem dX9_draws_16 : decode cX9_draws 16 = .ok (.iadd, 1) := by decide +kernel
theorem dX9_draws_17 : decode cX9_draws 17 = .ok (.dup2, 1) := by decide +kernel
theorem dX9_draws_18 : decode cX9_draws 18 = .ok (.iaload, 1) := by decide +kernel
theorem dX9_draws_19 : decode cX9_draws 19 = .ok (.aload_n 0, 1) := by decide +kernel
theorem dX9_draws_20 : decode cX9_draws 20 = .ok (.getfield 26, 3) := by decide +kernel
theorem dX9_draws_23 : decode cX9_draws 23 = .ok (.bipush 25, 2) := by decide +kernel
theorem dX9_draws_25 : decode cX9_draws 25 = .ok (.iload_n 1, 1) := by decide +kernel
theorem dX9_draws_26 : decode cX9_draws 26 = .ok (.imul, 1) := by decide +kernel
theorem dX9_draws_27 : decode cX9_draws 27 = .ok (.iconst 4, 1) := by decide +kernel
theorem dX9_draws_28 : decode cX9_draws 28 = .ok (.iadd, 1) := by decide +kernel
theorem dX9_draws_29 : decode cX9_draws 29 = .ok (.iconst 4, 1) := by decide +kernel
theorem dX9_draws_30 : decode cX9_draws 30 = .ok (.iload_n 2, 1) := by decide +kernel
theorem dX9_draws_31 : decode cX9_draws 31 = .ok (.imul, 1) := by decide +kernel
theorem dX9_draws_32 : decode cX9_draws 32 = .ok (.iadd, 1) := by decide +kernel
theorem dX9_draws_33 : decode cX9_draws 33 = .ok (.iload_n 3, 1) := by decide +kernel
theorem dX9_draws_34 : decode cX9_draws 34 = .ok (.iadd, 1) := by decide +kernel
theorem dX9_draws_35 : decode cX9_draws 35 = .ok (.iaload, 1) := by decide +kernel
theorem dX9_draws_36 : decode cX9_draws 36 = .ok (.iadd, 1) := by decide +kernel
theorem dX9_draws_37 : decode cX9_draws 37 = .ok (.iastore, 1) := by decide +kernel
theorem dX9_draws_38 : decode cX9_draws 38 = .ok (.iinc 3 1, 3) := by decide +kernel
theorem dX9_draws_41 : decode cX9_draws 41 = .ok (.goto (-39), 3) := by decide +kernel
theorem dX9_draws_44 : decode cX9_draws 44 = .ok (.aload_n 0, 1) := by decide +kernel
theorem dX9_draws_45 : decode cX9_draws 45 = .ok (.getfield 26, 3) := by decide +kernel
theorem dX9_draws_48 : decode cX9_draws 48 = .ok (.bipush 25, 2) := by decide +kernel
theorem dX9_draws_50 : decode cX9_draws 50 = .ok (.iload_n 1, 1) := by decide +kernel
theorem dX9_draws_51 : decode cX9_draws 51 = .ok (.imul, 1) := by decide +kernel
theorem dX9_draws_52 : decode cX9_draws 52 = .ok (.bipush 24, 2) := by decide +kernel
theorem dX9_draws_54 : decode cX9_draws 54 = .ok (.iadd, 1) := by decide +kernel
theorem dX9_draws_55 : decode cX9_draws 55 = .ok (.dup2, 1) := by decide +kernel
theorem dX9_draws_56 : decode cX9_draws 56 = .ok (.iaload, 1) := by decide +kernel
theorem dX9_draws_57 : decode cX9_draws 57 = .ok (.iconst 1, 1) := by decide +kernel
theorem dX9_draws_58 : decode cX9_draws 58 = .ok (.iadd, 1) := by decide +kernel
theorem dX9_draws_59 : decode cX9_draws 59 = .ok (.iastore, 1) := by decide +kernel
theorem dX9_draws_60 : decode cX9_draws 60 = .ok (.aload_n 0, 1) := by decide +kernel
theorem dX9_draws_61 : decode cX9_draws 61 = .ok (.getfield 26, 3) := by decide +kernel
theorem dX9_draws_64 : decode cX9_draws 64 = .ok (.sipush 201, 3) := by decide +kernel
theorem dX9_draws_67 : decode cX9_draws 67 = .ok (.dup2, 1) := by decide +kernel
theorem dX9_draws_68 : decode cX9_draws 68 = .ok (.iaload, 1) := by decide +kernel
theorem dX9_draws_69 : decode cX9_draws 69 = .ok (.iconst 1, 1) := by decide +kernel
theorem dX9_draws_70 : decode cX9_draws 70 = .ok (.iadd, 1) := by decide +kernel
theorem dX9_draws_71 : decode cX9_draws 71 = .ok (.iastore, 1) := by decide +kernel
theorem dX9_draws_72 : decode cX9_draws 72 = .ok (.return_, 1) := by decide +kernel
theorem dX9_draw_0 : decode cX9_draw 0 = .ok (.aload_n 0, 1) := by decide +kernel
theorem dX9_draw_1 : decode cX9_draw 1 = .ok (.iload_n 1, 1) := by decide +kernel
theorem dX9_draw_2 : decode cX9_draw 2 = .ok (.invokevirtual 89, 3) := by decide +kernel
theorem dX9_draw_5 : decode cX9_draw 5 = .ok (.ifCond .eq 12, 3) := by decide +kernel
theorem dX9_draw_8 : decode cX9_draw 8 = .ok (.aload_n 0, 1) := by decide +kernel
theorem dX9_draw_9 : decode cX9_draw 9 = .ok (.iload_n 1, 1) := by decide +kernel
theorem dX9_draw_10 : decode cX9_draw 10 = .ok (.iload_n 2, 1) := by decide +kernel
theorem dX9_draw_11 : decode cX9_draw 11 = .ok (.invokevirtual 92, 3) := by decide +kernel
theorem dX9_draw_14 : decode cX9_draw 14 = .ok (.ifCond .ne 5, 3) := by decide +kernel
theorem dX9_draw_17 : decode cX9_draw 17 = .ok (.iconst (-1), 1) := by decide +kernel
theorem dX9_draw_18 : decode cX9_draw 18 = .ok (.ireturn, 1) := by decide +kernel
theorem dX9_draw_19 : decode cX9_draw 19 = .ok (.aload_n 0, 1) := by decide +kernel
theorem dX9_draw_20 : decode cX9_draw 20 = .ok (.iload_n 1, 1) := by decide +kernel
theorem dX9_draw_21 : decode cX9_draw 21 = .ok (.iload_n 2, 1) := by decide +kernel
theorem dX9_draw_22 : decode cX9_draw 22 = .ok (.invokevirtual 120, 3) := by decide +kernel
theorem dX9_draw_25 : decode cX9_draw 25 = .ok (.ifCond .ne 6, 3) := by decide +kernel
theorem dX9_draw_28 : decode cX9_draw 28 = .ok (.bipush (-5), 2) := by decide +kernel
theorem dX9_draw_30 : decode cX9_draw 30 = .ok (.ireturn, 1) := by decide +kernel
theorem dX9_draw_31 : decode cX9_draw 31 = .ok (.aload_n 0, 1) := by decide +kernel
theorem dX9_draw_32 : decode cX9_draw 32 = .ok (.invokevirtual 102, 3) := by decide +kernel
theorem dX9_draw_35 : decode cX9_draw 35 = .ok (.aload_n 0, 1) := by decide +kernel
theorem dX9_draw_36 : decode cX9_draw 36 = .ok (.iload_n 1, 1) := by decide +kernel
theorem dX9_draw_37 : decode cX9_draw 37 = .ok (.iload_n 2, 1) := by decide +kernel
theorem dX9_draw_38 : decode cX9_draw 38 = .ok (.invokevirtual 123, 3) := by decide +kernel
theorem dX9_draw_41 : decode cX9_draw 41 = .ok (.aload_n 0, 1) := by decide +kernel
theorem dX9_draw_42 : decode cX9_draw 42 = .ok (.iload_n 1, 1) := by decide +kernel
theorem dX9_draw_43 : decode cX9_draw 43 = .ok (.invokevirtual 113, 3) := by decide +kernel
theorem dX9_draw_46 : decode cX9_draw 46 = .ok (.ireturn, 1) := by decide +kernel
theorem dX9_seed_0 : decode cX9_seed 0 = .ok (.iload_n 1, 1) := by decide +kernel
theorem dX9_seed_1 : decode cX9_seed 1 = .ok (.i2l, 1) := by decide +kernel
theorem dX9_seed_2 : decode cX9_seed 2 = .ok (.lconst 1, 1) := by decide +kernel
theorem dX9_seed_3 : decode cX9_seed 3 = .ok (.ldc2_w 127, 3) := by decide +kernel
theorem dX9_seed_6 : decode cX9_seed 6 = .ok (.invokestatic 62, 3) := by decide +kernel
theorem dX9_seed_9 : decode cX9_seed 9 = .ok (.ifCond .ne 5, 3) := by decide +kernel
theorem dX9_seed_12 : decode cX9_seed 12 = .ok (.iconst (-1), 1) := by decide +kernel
theorem dX9_seed_13 : decode cX9_seed 13 = .ok (.ireturn, 1) := by decide +kernel
theorem dX9_seed_14 : decode cX9_seed 14 = .ok (.aload_n 0, 1) := by decide +kernel
theorem dX9_seed_15 : decode cX9_seed 15 = .ok (.getfield 26, 3) := by decide +kernel
theorem dX9_seed_18 : decode cX9_seed 18 = .ok (.sipush 200, 3) := by decide +kernel
theorem dX9_seed_21 : decode cX9_seed 21 = .ok (.iload_n 1, 1) := by decide +kernel
theorem dX9_seed_22 : decode cX9_seed 22 = .ok (.iastore, 1) := by decide +kernel
theorem dX9_seed_23 : decode cX9_seed 23 = .ok (.iconst 0, 1) := by decide +kernel
theorem dX9_seed_24 : decode cX9_seed 24 = .ok (.ireturn, 1) := by decide +kernel
theorem dX9_looks_0 : decode cX9_looks 0 = .ok (.aload_n 0, 1) := by decide +kernel
theorem dX9_looks_1 : decode cX9_looks 1 = .ok (.iconst 0, 1) := by decide +kernel
theorem dX9_looks_2 : decode cX9_looks 2 = .ok (.putfield 129, 3) := by decide +kernel
theorem dX9_looks_5 : decode cX9_looks 5 = .ok (.aload_n 0, 1) := by decide +kernel
theorem dX9_looks_6 : decode cX9_looks 6 = .ok (.aload_n 0, 1) := by decide +kernel
theorem dX9_looks_7 : decode cX9_looks 7 = .ok (.getfield 26, 3) := by decide +kernel
theorem dX9_looks_10 : decode cX9_looks 10 = .ok (.sipush 200, 3) := by decide +kernel
theorem dX9_looks_13 : decode cX9_looks 13 = .ok (.iaload, 1) := by decide +kernel
theorem dX9_looks_14 : decode cX9_looks 14 = .ok (.putfield 132, 3) := by decide +kernel
theorem dX9_looks_17 : decode cX9_looks 17 = .ok (.iload_n 1, 1) := by decide +kernel
theorem dX9_looks_18 : decode cX9_looks 18 = .ok (.istore_n 2, 1) := by decide +kernel
theorem dX9_looks_19 : decode cX9_looks 19 = .ok (.iload_n 2, 1) := by decide +kernel
theorem dX9_looks_20 : decode cX9_looks 20 = .ok (.ifCond .lt 154, 3) := by decide +kernel
theorem dX9_looks_23 : decode cX9_looks 23 = .ok (.aload_n 0, 1) := by decide +kernel
theorem dX9_looks_24 : decode cX9_looks 24 = .ok (.iload_n 2, 1) := by decide +kernel
theorem dX9_looks_25 : decode cX9_looks 25 = .ok (.invokevirtual 113, 3) := by decide +kernel
theorem dX9_looks_28 : decode cX9_looks 28 = .ok (.istore_n 3, 1) := by decide +kernel
theorem dX9_looks_29 : decode cX9_looks 29 = .ok (.iload_n 3, 1) := by decide +kernel
theorem dX9_looks_30 : decode cX9_looks 30 = .ok (.ifCond .ne 5, 3) := by decide +kernel
theorem dX9_looks_33 : decode cX9_looks 33 = .ok (.iconst 0, 1) := by decide +kernel
theorem dX9_looks_34 : decode cX9_looks 34 = .ok (.ireturn, 1) := by decide +kernel
theorem dX9_looks_35 : decode cX9_looks 35 = .ok (.aload_n 0, 1) := by decide +kernel
theorem dX9_looks_36 : decode cX9_looks 36 = .ok (.aload_n 0, 1) := by decide +kernel
theorem dX9_looks_37 : decode cX9_looks 37 = .ok (.getfield 132, 3) := by decide +kernel
theorem dX9_looks_40 : decode cX9_looks 40 = .ok (.i2l, 1) := by decide +kernel
theorem dX9_looks_41 : decode cX9_looks 41 = .ok (.ldc2_w 135, 3) := by decide +kernel
theorem dX9_looks_44 : decode cX9_looks 44 = .ok (.lmul, 1) := by decide +kernel
theorem dX9_looks_45 : decode cX9_looks 45 = .ok (.ldc2_w 137, 3) := by decide +kernel
theorem dX9_looks_48 : decode cX9_looks 48 = .ok (.ladd, 1) := by decide +kernel
theorem dX9_looks_49 : decode cX9_looks 49 = .ok (.ldc2_w 139, 3) := by decide +kernel
theorem dX9_looks_52 : decode cX9_looks 52 = .ok (.lrem, 1) := by decide +kernel
theorem dX9_looks_53 : decode cX9_looks 53 = .ok (.l2i, 1) := by decide +kernel
theorem dX9_looks_54 : decode cX9_looks 54 = .ok (.putfield 132, 3) := by decide +kernel
theorem dX9_looks_57 : decode cX9_looks 57 = .ok (.aload_n 0, 1) := by decide +kernel
theorem dX9_looks_58 : decode cX9_looks 58 = .ok (.getfield 132, 3) := by decide +kernel
theorem dX9_looks_61 : decode cX9_looks 61 = .ok (.bipush 16, 2) := by decide +kernel
theorem dX9_looks_63 : decode cX9_looks 63 = .ok (.idiv, 1) := by decide +kernel
theorem dX9_looks_64 : decode cX9_looks 64 = .ok (.iload_n 3, 1) := by decide +kernel
theorem dX9_looks_65 : decode cX9_looks 65 = .ok (.irem, 1) := by decide +kernel
theorem dX9_looks_66 : decode cX9_looks 66 = .ok (.istore 4, 2) := by decide +kernel
theorem dX9_looks_68 : decode cX9_looks 68 = .ok (.iconst 0, 1) := by decide +kernel
theorem dX9_looks_69 : decode cX9_looks 69 = .ok (.istore 5, 2) := by decide +kernel
theorem dX9_looks_71 : decode cX9_looks 71 = .ok (.aload_n 0, 1) := by decide +kernel
theorem dX9_looks_72 : decode cX9_looks 72 = .ok (.getfield 26, 3) := by decide +kernel
theorem dX9_looks_75 : decode cX9_looks 75 = .ok (.bipush 25, 2) := by decide +kernel
theorem dX9_looks_77 : decode cX9_looks 77 = .ok (.iload_n 2, 1) := by decide +kernel
theorem dX9_looks_78 : decode cX9_looks 78 = .ok (.imul, 1) := by decide +kernel
theorem dX9_looks_79 : decode cX9_looks 79 = .ok (.iaload, 1) := by decide +kernel
theorem dX9_looks_80 : decode cX9_looks 80 = .ok (.istore 6, 2) := by decide +kernel
theorem dX9_looks_82 : decode cX9_looks 82 = .ok (.iload 4, 2) := by decide +kernel
theorem dX9_looks_84 : decode cX9_looks 84 = .ok (.iload 6, 2) := by decide +kernel
theorem dX9_looks_86 : decode cX9_looks 86 = .ok (.if_icmp .lt 26, 3) := by decide +kernel
theorem dX9_looks_89 : decode cX9_looks 89 = .ok (.iinc 5 1, 3) := by decide +kernel
theorem dX9_looks_92 : decode cX9_looks 92 = .ok (.iload 6, 2) := by decide +kernel
theorem dX9_looks_94 : decode cX9_looks 94 = .ok (.aload_n 0, 1) := by decide +kernel
theorem dX9_looks_95 : decode cX9_looks 95 = .ok (.getfield 26, 3) := by decide +kernel
theorem dX9_looks_98 : decode cX9_looks 98 = .ok (.bipush 25, 2) := by decide +kernel
theorem dX9_looks_100 : decode cX9_looks 100 = .ok (.iload_n 2, 1) := by decide +kernel
theorem dX9_looks_101 : decode cX9_looks 101 = .ok (.imul, 1) := by decide +kernel
theorem dX9_looks_102 : decode cX9_looks 102 = .ok (.iload 5, 2) := by decide +kernel
theorem dX9_looks_104 : decode cX9_looks 104 = .ok (.iadd, 1) := by decide +kernel
theorem dX9_looks_105 : decode cX9_looks 105 = .ok (.iaload, 1) := by decide +kernel
theorem dX9_looks_106 : decode cX9_looks 106 = .ok (.iadd, 1) := by decide +kernel
theorem dX9_looks_107 : decode cX9_looks 107 = .ok (.istore 6, 2) := by decide +kernel
theorem dX9_looks_109 : decode cX9_looks 109 = .ok (.goto (-27), 3) := by decide +kernel
theorem dX9_looks_112 : decode cX9_looks 112 = .ok (.aload_n 0, 1) := by decide +kernel
theorem dX9_looks_113 : decode cX9_looks 113 = .ok (.iload_n 2, 1) := by decide +kernel
theorem dX9_looks_114 : decode cX9_looks 114 = .ok (.iload 5, 2) := by decide +kernel
theorem dX9_looks_116 : decode cX9_looks 116 = .ok (.invokevirtual 120, 3) := by decide +kernel
theorem dX9_looks_119 : decode cX9_looks 119 = .ok (.ifCond .ne 5, 3) := by decide +kernel
theorem dX9_looks_122 : decode cX9_looks 122 = .ok (.iconst 0, 1) := by decide +kernel
theorem dX9_looks_123 : decode cX9_looks 123 = .ok (.ireturn, 1) := by decide +kernel
theorem dX9_looks_124 : decode cX9_looks 124 = .ok (.aload_n 0, 1) := by decide +kernel
theorem dX9_looks_125 : decode cX9_looks 125 = .ok (.getfield 36, 3) := by decide +kernel
theorem dX9_looks_128 : decode cX9_looks 128 = .ok (.aload_n 0, 1) := by decide +kernel
theorem dX9_looks_129 : decode cX9_looks 129 = .ok (.getfield 129, 3) := by decide +kernel
theorem dX9_looks_132 : decode cX9_looks 132 = .ok (.iload_n 2, 1) := by decide +kernel
theorem dX9_looks_133 : decode cX9_looks 133 = .ok (.iastore, 1) := by decide +kernel
theorem dX9_looks_134 : decode cX9_looks 134 = .ok (.aload_n 0, 1) := by decide +kernel
theorem dX9_looks_135 : decode cX9_looks 135 = .ok (.getfield 39, 3) := by decide +kernel
theorem dX9_looks_138 : decode cX9_looks 138 = .ok (.aload_n 0, 1) := by decide +kernel
theorem dX9_looks_139 : decode cX9_looks 139 = .ok (.getfield 129, 3) := by decide +kernel
theorem dX9_looks_142 : decode cX9_looks 142 = .ok (.iload 5, 2) := by decide +kernel
theorem dX9_looks_144 : decode cX9_looks 144 = .ok (.iastore, 1) := by decide +kernel
theorem dX9_looks_145 : decode cX9_looks 145 = .ok (.aload_n 0, 1) := by decide +kernel
theorem dX9_looks_146 : decode cX9_looks 146 = .ok (.dup, 1) := by decide +kernel
theorem dX9_looks_147 : decode cX9_looks 147 = .ok (.getfield 129, 3) := by decide +kernel
theorem dX9_looks_150 : decode cX9_looks 150 = .ok (.iconst 1, 1) := by decide +kernel
theorem dX9_looks_151 : decode cX9_looks 151 = .ok (.iadd, 1) := by decide +kernel
theorem dX9_looks_152 : decode cX9_looks 152 = .ok (.putfield 129, 3) := by decide +kernel
theorem dX9_looks_155 : decode cX9_looks 155 = .ok (.aload_n 0, 1) := by decide +kernel
theorem dX9_looks_156 : decode cX9_looks 156 = .ok (.getfield 26, 3) := by decide +kernel
theorem dX9_looks_159 : decode cX9_looks 159 = .ok (.bipush 25, 2) := by decide +kernel
theorem dX9_looks_161 : decode cX9_looks 161 = .ok (.iload_n 2, 1) := by decide +kernel
theorem dX9_looks_162 : decode cX9_looks 162 = .ok (.imul, 1) := by decide +kernel
theorem dX9_looks_163 : decode cX9_looks 163 = .ok (.bipush 20, 2) := by decide +kernel
theorem dX9_looks_165 : decode cX9_looks 165 = .ok (.iadd, 1) := by decide +kernel
theorem dX9_looks_166 : decode cX9_looks 166 = .ok (.iload 5, 2) := by decide +kernel
theorem dX9_looks_168 : decode cX9_looks 168 = .ok (.iadd, 1) := by decide +kernel
theorem dX9_looks_169 : decode cX9_looks 169 = .ok (.iaload, 1) := by decide +kernel
theorem dX9_looks_170 : decode cX9_looks 170 = .ok (.istore_n 2, 1) := by decide +kernel
theorem dX9_looks_171 : decode cX9_looks 171 = .ok (.goto (-152), 3) := by decide +kernel
theorem dX9_looks_174 : decode cX9_looks 174 = .ok (.iconst 1, 1) := by decide +kernel
theorem dX9_looks_175 : decode cX9_looks 175 = .ok (.ireturn, 1) := by decide +kernel
theorem dX9_doesDraws_0 : decode cX9_doesDraws 0 = .ok (.iconst 1, 1) := by decide +kernel
theorem dX9_doesDraws_1 : decode cX9_doesDraws 1 = .ok (.istore_n 1, 1) := by decide +kernel
theorem dX9_doesDraws_2 : decode cX9_doesDraws 2 = .ok (.iconst 0, 1) := by decide +kernel
theorem dX9_doesDraws_3 : decode cX9_doesDraws 3 = .ok (.istore_n 2, 1) := by decide +kernel
theorem dX9_doesDraws_4 : decode cX9_doesDraws 4 = .ok (.iload_n 2, 1) := by decide +kernel
theorem dX9_doesDraws_5 : decode cX9_doesDraws 5 = .ok (.aload_n 0, 1) := by decide +kernel
theorem dX9_doesDraws_6 : decode cX9_doesDraws 6 = .ok (.getfield 129, 3) := by decide +kernel
theorem dX9_doesDraws_9 : decode cX9_doesDraws 9 = .ok (.if_icmp .ge 37, 3) := by decide +kernel
theorem dX9_doesDraws_12 : decode cX9_doesDraws 12 = .ok (.aload_n 0, 1) := by decide +kernel
theorem dX9_doesDraws_13 : decode cX9_doesDraws 13 = .ok (.aload_n 0, 1) := by decide +kernel
theorem dX9_doesDraws_14 : decode cX9_doesDraws 14 = .ok (.getfield 36, 3) := by decide +kernel
theorem dX9_doesDraws_17 : decode cX9_doesDraws 17 = .ok (.iload_n 2, 1) := by decide +kernel
theorem dX9_doesDraws_18 : decode cX9_doesDraws 18 = .ok (.iaload, 1) := by decide +kernel
theorem dX9_doesDraws_19 : decode cX9_doesDraws 19 = .ok (.aload_n 0, 1) := by decide +kernel
theorem dX9_doesDraws_20 : decode cX9_doesDraws 20 = .ok (.getfield 39, 3) := by decide +kernel
theorem dX9_doesDraws_23 : decode cX9_doesDraws 23 = .ok (.iload_n 2, 1) := by decide +kernel
theorem dX9_doesDraws_24 : decode cX9_doesDraws 24 = .ok (.iaload, 1) := by decide +kernel
theorem dX9_doesDraws_25 : decode cX9_doesDraws 25 = .ok (.invokevirtual 123, 3) := by decide +kernel
theorem dX9_doesDraws_28 : decode cX9_doesDraws 28 = .ok (.bipush 10, 2) := by decide +kernel
theorem dX9_doesDraws_30 : decode cX9_doesDraws 30 = .ok (.iload_n 1, 1) := by decide +kernel
theorem dX9_doesDraws_31 : decode cX9_doesDraws 31 = .ok (.imul, 1) := by decide +kernel
theorem dX9_doesDraws_32 : decode cX9_doesDraws 32 = .ok (.aload_n 0, 1) := by decide +kernel
theorem dX9_doesDraws_33 : decode cX9_doesDraws 33 = .ok (.getfield 39, 3) := by decide +kernel
theorem dX9_doesDraws_36 : decode cX9_doesDraws 36 = .ok (.iload_n 2, 1) := by decide +kernel
theorem dX9_doesDraws_37 : decode cX9_doesDraws 37 = .ok (.iaload, 1) := by decide +kernel
theorem dX9_doesDraws_38 : decode cX9_doesDraws 38 = .ok (.iadd, 1) := by decide +kernel
theorem dX9_doesDraws_39 : decode cX9_doesDraws 39 = .ok (.istore_n 1, 1) := by decide +kernel
theorem dX9_doesDraws_40 : decode cX9_doesDraws 40 = .ok (.iinc 2 1, 3) := by decide +kernel
theorem dX9_doesDraws_43 : decode cX9_doesDraws 43 = .ok (.goto (-39), 3) := by decide +kernel
theorem dX9_doesDraws_46 : decode cX9_doesDraws 46 = .ok (.aload_n 0, 1) := by decide +kernel
theorem dX9_doesDraws_47 : decode cX9_doesDraws 47 = .ok (.getfield 26, 3) := by decide +kernel
theorem dX9_doesDraws_50 : decode cX9_doesDraws 50 = .ok (.sipush 200, 3) := by decide +kernel
theorem dX9_doesDraws_53 : decode cX9_doesDraws 53 = .ok (.aload_n 0, 1) := by decide +kernel
theorem dX9_doesDraws_54 : decode cX9_doesDraws 54 = .ok (.getfield 132, 3) := by decide +kernel
theorem dX9_doesDraws_57 : decode cX9_doesDraws 57 = .ok (.iastore, 1) := by decide +kernel
theorem dX9_doesDraws_58 : decode cX9_doesDraws 58 = .ok (.iload_n 1, 1) := by decide +kernel
theorem dX9_doesDraws_59 : decode cX9_doesDraws 59 = .ok (.ireturn, 1) := by decide +kernel
theorem dX9_drawn_0 : decode cX9_drawn 0 = .ok (.aload_n 0, 1) := by decide +kernel
theorem dX9_drawn_1 : decode cX9_drawn 1 = .ok (.iload_n 1, 1) := by decide +kernel
theorem dX9_drawn_2 : decode cX9_drawn 2 = .ok (.invokevirtual 89, 3) := by decide +kernel
theorem dX9_drawn_5 : decode cX9_drawn 5 = .ok (.ifCond .ne 5, 3) := by decide +kernel
theorem dX9_drawn_8 : decode cX9_drawn 8 = .ok (.iconst (-1), 1) := by decide +kernel
theorem dX9_drawn_9 : decode cX9_drawn 9 = .ok (.ireturn, 1) := by decide +kernel
theorem dX9_drawn_10 : decode cX9_drawn 10 = .ok (.aload_n 0, 1) := by decide +kernel
theorem dX9_drawn_11 : decode cX9_drawn 11 = .ok (.iload_n 1, 1) := by decide +kernel
theorem dX9_drawn_12 : decode cX9_drawn 12 = .ok (.invokevirtual 141, 3) := by decide +kernel
theorem dX9_drawn_15 : decode cX9_drawn 15 = .ok (.ifCond .ne 6, 3) := by decide +kernel
theorem dX9_drawn_18 : decode cX9_drawn 18 = .ok (.bipush (-5), 2) := by decide +kernel
theorem dX9_drawn_20 : decode cX9_drawn 20 = .ok (.ireturn, 1) := by decide +kernel
theorem dX9_drawn_21 : decode cX9_drawn 21 = .ok (.aload_n 0, 1) := by decide +kernel
theorem dX9_drawn_22 : decode cX9_drawn 22 = .ok (.invokevirtual 102, 3) := by decide +kernel
theorem dX9_drawn_25 : decode cX9_drawn 25 = .ok (.aload_n 0, 1) := by decide +kernel
theorem dX9_drawn_26 : decode cX9_drawn 26 = .ok (.invokevirtual 144, 3) := by decide +kernel
theorem dX9_drawn_29 : decode cX9_drawn 29 = .ok (.ireturn, 1) := by decide +kernel
theorem dX9_shake_0 : decode cX9_shake 0 = .ok (.aload_n 0, 1) := by decide +kernel
theorem dX9_shake_1 : decode cX9_shake 1 = .ok (.iload_n 1, 1) := by decide +kernel
theorem dX9_shake_2 : decode cX9_shake 2 = .ok (.invokevirtual 89, 3) := by decide +kernel
theorem dX9_shake_5 : decode cX9_shake 5 = .ok (.ifCond .eq 15, 3) := by decide +kernel
theorem dX9_shake_8 : decode cX9_shake 8 = .ok (.iload_n 2, 1) := by decide +kernel
theorem dX9_shake_9 : decode cX9_shake 9 = .ok (.i2l, 1) := by decide +kernel
theorem dX9_shake_10 : decode cX9_shake 10 = .ok (.lconst 1, 1) := by decide +kernel
theorem dX9_shake_11 : decode cX9_shake 11 = .ok (.ldc2_w 148, 3) := by decide +kernel
theorem dX9_shake_14 : decode cX9_shake 14 = .ok (.invokestatic 62, 3) := by decide +kernel
theorem dX9_shake_17 : decode cX9_shake 17 = .ok (.ifCond .ne 5, 3) := by decide +kernel
theorem dX9_shake_20 : decode cX9_shake 20 = .ok (.iconst (-1), 1) := by decide +kernel
theorem dX9_shake_21 : decode cX9_shake 21 = .ok (.ireturn, 1) := by decide +kernel
theorem dX9_shake_22 : decode cX9_shake 22 = .ok (.iconst 0, 1) := by decide +kernel
theorem dX9_shake_23 : decode cX9_shake 23 = .ok (.istore_n 3, 1) := by decide +kernel
theorem dX9_shake_24 : decode cX9_shake 24 = .ok (.iload_n 3, 1) := by decide +kernel
theorem dX9_shake_25 : decode cX9_shake 25 = .ok (.iload_n 2, 1) := by decide +kernel
theorem dX9_shake_26 : decode cX9_shake 26 = .ok (.if_icmp .ge 31, 3) := by decide +kernel
theorem dX9_shake_29 : decode cX9_shake 29 = .ok (.aload_n 0, 1) := by decide +kernel
theorem dX9_shake_30 : decode cX9_shake 30 = .ok (.iload_n 1, 1) := by decide +kernel
theorem dX9_shake_31 : decode cX9_shake 31 = .ok (.invokevirtual 141, 3) := by decide +kernel
theorem dX9_shake_34 : decode cX9_shake 34 = .ok (.ifCond .eq 23, 3) := by decide +kernel
theorem dX9_shake_37 : decode cX9_shake 37 = .ok (.iload_n 3, 1) := by decide +kernel
theorem dX9_shake_38 : decode cX9_shake 38 = .ok (.ifCond .ne 7, 3) := by decide +kernel
theorem dX9_shake_41 : decode cX9_shake 41 = .ok (.aload_n 0, 1) := by decide +kernel
theorem dX9_shake_42 : decode cX9_shake 42 = .ok (.invokevirtual 102, 3) := by decide +kernel
theorem dX9_shake_45 : decode cX9_shake 45 = .ok (.aload_n 0, 1) := by decide +kernel
theorem dX9_shake_46 : decode cX9_shake 46 = .ok (.invokevirtual 144, 3) := by decide +kernel
theorem dX9_shake_49 : decode cX9_shake 49 = .ok (.istore 4, 2) := by decide +kernel
theorem dX9_shake_51 : decode cX9_shake 51 = .ok (.iinc 3 1, 3) := by decide +kernel
theorem dX9_shake_54 : decode cX9_shake 54 = .ok (.goto (-30), 3) := by decide +kernel
theorem dX9_shake_57 : decode cX9_shake 57 = .ok (.iload_n 3, 1) := by decide +kernel
theorem dX9_shake_58 : decode cX9_shake 58 = .ok (.ireturn, 1) := by decide +kernel
theorem dX9_undo_0 : decode cX9_undo 0 = .ok (.aload_n 0, 1) := by decide +kernel
theorem dX9_undo_1 : decode cX9_undo 1 = .ok (.getfield 86, 3) := by decide +kernel
theorem dX9_undo_4 : decode cX9_undo 4 = .ok (.ifCond .ne 6, 3) := by decide +kernel
theorem dX9_undo_7 : decode cX9_undo 7 = .ok (.bipush (-2), 2) := by decide +kernel
theorem dX9_undo_9 : decode cX9_undo 9 = .ok (.ireturn, 1) := by decide +kernel
theorem dX9_undo_10 : decode cX9_undo 10 = .ok (.aload_n 0, 1) := by decide +kernel
theorem dX9_undo_11 : decode cX9_undo 11 = .ok (.dup, 1) := by decide +kernel
theorem dX9_undo_12 : decode cX9_undo 12 = .ok (.getfield 86, 3) := by decide +kernel
theorem dX9_undo_15 : decode cX9_undo 15 = .ok (.iconst 1, 1) := by decide +kernel
theorem dX9_undo_16 : decode cX9_undo 16 = .ok (.isub, 1) := by decide +kernel
theorem dX9_undo_17 : decode cX9_undo 17 = .ok (.putfield 86, 3) := by decide +kernel
theorem dX9_undo_20 : decode cX9_undo 20 = .ok (.iconst 0, 1) := by decide +kernel
theorem dX9_undo_21 : decode cX9_undo 21 = .ok (.istore_n 1, 1) := by decide +kernel
theorem dX9_undo_22 : decode cX9_undo 22 = .ok (.iload_n 1, 1) := by decide +kernel
theorem dX9_undo_23 : decode cX9_undo 23 = .ok (.sipush 202, 3) := by decide +kernel
theorem dX9_undo_26 : decode cX9_undo 26 = .ok (.if_icmp .ge 30, 3) := by decide +kernel
theorem dX9_undo_29 : decode cX9_undo 29 = .ok (.aload_n 0, 1) := by decide +kernel
theorem dX9_undo_30 : decode cX9_undo 30 = .ok (.getfield 26, 3) := by decide +kernel
theorem dX9_undo_33 : decode cX9_undo 33 = .ok (.iload_n 1, 1) := by decide +kernel
theorem dX9_undo_34 : decode cX9_undo 34 = .ok (.aload_n 0, 1) := by decide +kernel
theorem dX9_undo_35 : decode cX9_undo 35 = .ok (.getfield 29, 3) := by decide +kernel
theorem dX9_undo_38 : decode cX9_undo 38 = .ok (.sipush 202, 3) := by decide +kernel
theorem dX9_undo_41 : decode cX9_undo 41 = .ok (.aload_n 0, 1) := by decide +kernel
theorem dX9_undo_42 : decode cX9_undo 42 = .ok (.getfield 86, 3) := by decide +kernel
theorem dX9_undo_45 : decode cX9_undo 45 = .ok (.imul, 1) := by decide +kernel
theorem dX9_undo_46 : decode cX9_undo 46 = .ok (.iload_n 1, 1) := by decide +kernel
theorem dX9_undo_47 : decode cX9_undo 47 = .ok (.iadd, 1) := by decide +kernel
theorem dX9_undo_48 : decode cX9_undo 48 = .ok (.iaload, 1) := by decide +kernel
theorem dX9_undo_49 : decode cX9_undo 49 = .ok (.iastore, 1) := by decide +kernel
theorem dX9_undo_50 : decode cX9_undo 50 = .ok (.iinc 1 1, 3) := by decide +kernel
theorem dX9_undo_53 : decode cX9_undo 53 = .ok (.goto (-31), 3) := by decide +kernel
theorem dX9_undo_56 : decode cX9_undo 56 = .ok (.iconst 1, 1) := by decide +kernel
theorem dX9_undo_57 : decode cX9_undo 57 = .ok (.ireturn, 1) := by decide +kernel
theorem dX9_common_0 : decode cX9_common 0 = .ok (.lload_n 0, 1) := by decide +kernel
theorem dX9_common_1 : decode cX9_common 1 = .ok (.lstore 4, 2) := by decide +kernel
theorem dX9_common_3 : decode cX9_common 3 = .ok (.lload_n 2, 1) := by decide +kernel
theorem dX9_common_4 : decode cX9_common 4 = .ok (.lstore 6, 2) := by decide +kernel
theorem dX9_common_6 : decode cX9_common 6 = .ok (.lload 6, 2) := by decide +kernel
theorem dX9_common_8 : decode cX9_common 8 = .ok (.lconst 0, 1) := by decide +kernel
theorem dX9_common_9 : decode cX9_common 9 = .ok (.lcmp, 1) := by decide +kernel
theorem dX9_common_10 : decode cX9_common 10 = .ok (.ifCond .eq 21, 3) := by decide +kernel
theorem dX9_common_13 : decode cX9_common 13 = .ok (.lload 4, 2) := by decide +kernel
theorem dX9_common_15 : decode cX9_common 15 = .ok (.lload 6, 2) := by decide +kernel
theorem dX9_common_17 : decode cX9_common 17 = .ok (.lrem, 1) := by decide +kernel
theorem dX9_common_18 : decode cX9_common 18 = .ok (.lstore 8, 2) := by decide +kernel
theorem dX9_common_20 : decode cX9_common 20 = .ok (.lload 6, 2) := by decide +kernel
theorem dX9_common_22 : decode cX9_common 22 = .ok (.lstore 4, 2) := by decide +kernel
theorem dX9_common_24 : decode cX9_common 24 = .ok (.lload 8, 2) := by decide +kernel
theorem dX9_common_26 : decode cX9_common 26 = .ok (.lstore 6, 2) := by decide +kernel
theorem dX9_common_28 : decode cX9_common 28 = .ok (.goto (-22), 3) := by decide +kernel
theorem dX9_common_31 : decode cX9_common 31 = .ok (.lload 4, 2) := by decide +kernel
theorem dX9_common_33 : decode cX9_common 33 = .ok (.lreturn, 1) := by decide +kernel
theorem dX9_tells_0 : decode cX9_tells 0 = .ok (.lload_n 1, 1) := by decide +kernel
theorem dX9_tells_1 : decode cX9_tells 1 = .ok (.lload_n 3, 1) := by decide +kernel
theorem dX9_tells_2 : decode cX9_tells 2 = .ok (.invokestatic 150, 3) := by decide +kernel
theorem dX9_tells_5 : decode cX9_tells 5 = .ok (.lstore 5, 2) := by decide +kernel
theorem dX9_tells_7 : decode cX9_tells 7 = .ok (.aload_n 0, 1) := by decide +kernel
theorem dX9_tells_8 : decode cX9_tells 8 = .ok (.lconst 0, 1) := by decide +kernel
theorem dX9_tells_9 : decode cX9_tells 9 = .ok (.putfield 154, 3) := by decide +kernel
theorem dX9_tells_12 : decode cX9_tells 12 = .ok (.aload_n 0, 1) := by decide +kernel
theorem dX9_tells_13 : decode cX9_tells 13 = .ok (.lload_n 1, 1) := by decide +kernel
theorem dX9_tells_14 : decode cX9_tells 14 = .ok (.lload 5, 2) := by decide +kernel
theorem dX9_tells_16 : decode cX9_tells 16 = .ok (.ldiv, 1) := by decide +kernel
theorem dX9_tells_17 : decode cX9_tells 17 = .ok (.putfield 157, 3) := by decide +kernel
theorem dX9_tells_20 : decode cX9_tells 20 = .ok (.aload_n 0, 1) := by decide +kernel
theorem dX9_tells_21 : decode cX9_tells 21 = .ok (.lload_n 3, 1) := by decide +kernel
theorem dX9_tells_22 : decode cX9_tells 22 = .ok (.lload 5, 2) := by decide +kernel
theorem dX9_tells_24 : decode cX9_tells 24 = .ok (.ldiv, 1) := by decide +kernel
theorem dX9_tells_25 : decode cX9_tells 25 = .ok (.putfield 32, 3) := by decide +kernel
theorem dX9_tells_28 : decode cX9_tells 28 = .ok (.iconst 0, 1) := by decide +kernel
theorem dX9_tells_29 : decode cX9_tells 29 = .ok (.ireturn, 1) := by decide +kernel
theorem dX9_part_0 : decode cX9_part 0 = .ok (.iload_n 1, 1) := by decide +kernel
theorem dX9_part_1 : decode cX9_part 1 = .ok (.tableswitch 75 0 2 #[27, 42, 52], 27) := by decide +kernel
theorem dX9_part_28 : decode cX9_part 28 = .ok (.aload_n 0, 1) := by decide +kernel
theorem dX9_part_29 : decode cX9_part 29 = .ok (.getfield 154, 3) := by decide +kernel
theorem dX9_part_32 : decode cX9_part 32 = .ok (.aload_n 0, 1) := by decide +kernel
theorem dX9_part_33 : decode cX9_part 33 = .ok (.getfield 157, 3) := by decide +kernel
theorem dX9_part_36 : decode cX9_part 36 = .ok (.aload_n 0, 1) := by decide +kernel
theorem dX9_part_37 : decode cX9_part 37 = .ok (.getfield 32, 3) := by decide +kernel
theorem dX9_part_40 : decode cX9_part 40 = .ok (.ldiv, 1) := by decide +kernel
theorem dX9_part_41 : decode cX9_part 41 = .ok (.ladd, 1) := by decide +kernel
theorem dX9_part_42 : decode cX9_part 42 = .ok (.lreturn, 1) := by decide +kernel
theorem dX9_part_43 : decode cX9_part 43 = .ok (.aload_n 0, 1) := by decide +kernel
theorem dX9_part_44 : decode cX9_part 44 = .ok (.getfield 157, 3) := by decide +kernel
theorem dX9_part_47 : decode cX9_part 47 = .ok (.aload_n 0, 1) := by decide +kernel
theorem dX9_part_48 : decode cX9_part 48 = .ok (.getfield 32, 3) := by decide +kernel
theorem dX9_part_51 : decode cX9_part 51 = .ok (.lrem, 1) := by decide +kernel
theorem dX9_part_52 : decode cX9_part 52 = .ok (.lreturn, 1) := by decide +kernel
theorem dX9_part_53 : decode cX9_part 53 = .ok (.aload_n 0, 1) := by decide +kernel
theorem dX9_part_54 : decode cX9_part 54 = .ok (.getfield 157, 3) := by decide +kernel
theorem dX9_part_57 : decode cX9_part 57 = .ok (.aload_n 0, 1) := by decide +kernel
theorem dX9_part_58 : decode cX9_part 58 = .ok (.getfield 32, 3) := by decide +kernel
theorem dX9_part_61 : decode cX9_part 61 = .ok (.lrem, 1) := by decide +kernel
theorem dX9_part_62 : decode cX9_part 62 = .ok (.lconst 0, 1) := by decide +kernel
theorem dX9_part_63 : decode cX9_part 63 = .ok (.lcmp, 1) := by decide +kernel
theorem dX9_part_64 : decode cX9_part 64 = .ok (.ifCond .ne 7, 3) := by decide +kernel
theorem dX9_part_67 : decode cX9_part 67 = .ok (.lconst 1, 1) := by decide +kernel
theorem dX9_part_68 : decode cX9_part 68 = .ok (.goto 7, 3) := by decide +kernel
theorem dX9_part_71 : decode cX9_part 71 = .ok (.aload_n 0, 1) := by decide +kernel
theorem dX9_part_72 : decode cX9_part 72 = .ok (.getfield 32, 3) := by decide +kernel
theorem dX9_part_75 : decode cX9_part 75 = .ok (.lreturn, 1) := by decide +kernel
theorem dX9_part_76 : decode cX9_part 76 = .ok (.ldc2_w 70, 3) := by decide +kernel
theorem dX9_part_79 : decode cX9_part 79 = .ok (.lreturn, 1) := by decide +kernel
theorem dX9_follows_0 : decode cX9_follows 0 = .ok (.aload_n 0, 1) := by decide +kernel
theorem dX9_follows_1 : decode cX9_follows 1 = .ok (.lconst 1, 1) := by decide +kernel
theorem dX9_follows_2 : decode cX9_follows 2 = .ok (.putfield 160, 3) := by decide +kernel
theorem dX9_follows_5 : decode cX9_follows 5 = .ok (.aload_n 0, 1) := by decide +kernel
theorem dX9_follows_6 : decode cX9_follows 6 = .ok (.lconst 1, 1) := by decide +kernel
theorem dX9_follows_7 : decode cX9_follows 7 = .ok (.putfield 163, 3) := by decide +kernel
theorem dX9_follows_10 : decode cX9_follows 10 = .ok (.iconst 0, 1) := by decide +kernel
theorem dX9_follows_11 : decode cX9_follows 11 = .ok (.istore 4, 2) := by decide +kernel
theorem dX9_follows_13 : decode cX9_follows 13 = .ok (.iload 4, 2) := by decide +kernel
theorem dX9_follows_15 : decode cX9_follows 15 = .ok (.iconst 4, 1) := by decide +kernel
theorem dX9_follows_16 : decode cX9_follows 16 = .ok (.if_icmp .ge 28, 3) := by decide +kernel
theorem dX9_follows_19 : decode cX9_follows 19 = .ok (.aload_n 0, 1) := by decide +kernel
theorem dX9_follows_20 : decode cX9_follows 20 = .ok (.getfield 42, 3) := by decide +kernel
theorem dX9_follows_23 : decode cX9_follows 23 = .ok (.iload 4, 2) := by decide +kernel
theorem dX9_follows_25 : decode cX9_follows 25 = .ok (.aload_n 0, 1) := by decide +kernel
theorem dX9_follows_26 : decode cX9_follows 26 = .ok (.getfield 26, 3) := by decide +kernel
theorem dX9_follows_29 : decode cX9_follows 29 = .ok (.bipush 25, 2) := by decide +kernel
theorem dX9_follows_31 : decode cX9_follows 31 = .ok (.iload_n 1, 1) := by decide +kernel
theorem dX9_follows_32 : decode cX9_follows 32 = .ok (.imul, 1) := by decide +kernel
theorem dX9_follows_33 : decode cX9_follows 33 = .ok (.iload 4, 2) := by decide +kernel
theorem dX9_follows_35 : decode cX9_follows 35 = .ok (.iadd, 1) := by decide +kernel
theorem dX9_follows_36 : decode cX9_follows 36 = .ok (.iaload, 1) := by decide +kernel
theorem dX9_follows_37 : decode cX9_follows 37 = .ok (.iastore, 1) := by decide +kernel
theorem dX9_follows_38 : decode cX9_follows 38 = .ok (.iinc 4 1, 3) := by decide +kernel
theorem dX9_follows_41 : decode cX9_follows 41 = .ok (.goto (-28), 3) := by decide +kernel
theorem dX9_follows_44 : decode cX9_follows 44 = .ok (.iload_n 3, 1) := by decide +kernel
theorem dX9_follows_45 : decode cX9_follows 45 = .ok (.istore 4, 2) := by decide +kernel
theorem dX9_follows_47 : decode cX9_follows 47 = .ok (.iconst 0, 1) := by decide +kernel
theorem dX9_follows_48 : decode cX9_follows 48 = .ok (.istore 5, 2) := by decide +kernel
theorem dX9_follows_50 : decode cX9_follows 50 = .ok (.iload 5, 2) := by decide +kernel
theorem dX9_follows_52 : decode cX9_follows 52 = .ok (.iload_n 2, 1) := by decide +kernel
theorem dX9_follows_53 : decode cX9_follows 53 = .ok (.if_icmp .ge 299, 3) := by decide +kernel
theorem dX9_follows_56 : decode cX9_follows 56 = .ok (.iload 4, 2) := by decide +kernel
theorem dX9_follows_58 : decode cX9_follows 58 = .ok (.iconst 3, 1) := by decide +kernel
theorem dX9_follows_59 : decode cX9_follows 59 = .ok (.iand, 1) := by decide +kernel
theorem dX9_follows_60 : decode cX9_follows 60 = .ok (.istore 6, 2) := by decide +kernel
theorem dX9_follows_62 : decode cX9_follows 62 = .ok (.iload 4, 2) := by decide +kernel
theorem dX9_follows_64 : decode cX9_follows 64 = .ok (.iconst 2, 1) := by decide +kernel
theorem dX9_follows_65 : decode cX9_follows 65 = .ok (.ishr, 1) := by decide +kernel
theorem dX9_follows_66 : decode cX9_follows 66 = .ok (.istore 4, 2) := by decide +kernel
theorem dX9_follows_68 : decode cX9_follows 68 = .ok (.aload_n 0, 1) := by decide +kernel
theorem dX9_follows_69 : decode cX9_follows 69 = .ok (.getfield 42, 3) := by decide +kernel
theorem dX9_follows_72 : decode cX9_follows 72 = .ok (.iload 6, 2) := by decide +kernel
theorem dX9_follows_74 : decode cX9_follows 74 = .ok (.iaload, 1) := by decide +kernel
theorem dX9_follows_75 : decode cX9_follows 75 = .ok (.i2l, 1) := by decide +kernel
theorem dX9_follows_76 : decode cX9_follows 76 = .ok (.lstore 7, 2) := by decide +kernel
theorem dX9_follows_78 : decode cX9_follows 78 = .ok (.aload_n 0, 1) := by decide +kernel
theorem dX9_follows_79 : decode cX9_follows 79 = .ok (.getfield 42, 3) := by decide +kernel
theorem dX9_follows_82 : decode cX9_follows 82 = .ok (.iconst 0, 1) := by decide +kernel
theorem dX9_follows_83 : decode cX9_follows 83 = .ok (.iaload, 1) := by decide +kernel
theorem dX9_follows_84 : decode cX9_follows 84 = .ok (.aload_n 0, 1) := by decide +kernel
theorem dX9_follows_85 : decode cX9_follows 85 = .ok (.getfield 42, 3) := by decide +kernel
theorem dX9_follows_88 : decode cX9_follows 88 = .ok (.iconst 1, 1) := by decide +kernel
theorem dX9_follows_89 : decode cX9_follows 89 = .ok (.iaload, 1) := by decide +kernel
theorem dX9_follows_90 : decode cX9_follows 90 = .ok (.iadd, 1) := by decide +kernel
theorem dX9_follows_91 : decode cX9_follows 91 = .ok (.aload_n 0, 1) := by decide +kernel
theorem dX9_follows_92 : decode cX9_follows 92 = .ok (.getfield 42, 3) := by decide +kernel
theorem dX9_follows_95 : decode cX9_follows 95 = .ok (.iconst 2, 1) := by decide +kernel
theorem dX9_follows_96 : decode cX9_follows 96 = .ok (.iaload, 1) := by decide +kernel
theorem dX9_follows_97 : decode cX9_follows 97 = .ok (.iadd, 1) := by decide +kernel
theorem dX9_follows_98 : decode cX9_follows 98 = .ok (.aload_n 0, 1) := by decide +kernel
theorem dX9_follows_99 : decode cX9_follows 99 = .ok (.getfield 42, 3) := by decide +kernel
theorem dX9_follows_102 : decode cX9_follows 102 = .ok (.iconst 3, 1) := by decide +kernel
theorem dX9_follows_103 : decode cX9_follows 103 = .ok (.iaload, 1) := by decide +kernel
theorem dX9_follows_104 : decode cX9_follows 104 = .ok (.iadd, 1) := by decide +kernel
theorem dX9_follows_105 : decode cX9_follows 105 = .ok (.i2l, 1) := by decide +kernel
theorem dX9_follows_106 : decode cX9_follows 106 = .ok (.lstore 9, 2) := by decide +kernel
theorem dX9_follows_108 : decode cX9_follows 108 = .ok (.lload 7, 2) := by decide +kernel
theorem dX9_follows_110 : decode cX9_follows 110 = .ok (.lconst 0, 1) := by decide +kernel
theorem dX9_follows_111 : decode cX9_follows 111 = .ok (.lcmp, 1) := by decide +kernel
theorem dX9_follows_112 : decode cX9_follows 112 = .ok (.ifCond .le 7, 3) := by decide +kernel
theorem dX9_follows_115 : decode cX9_follows 115 = .ok (.iconst 1, 1) := by decide +kernel
theorem dX9_follows_116 : decode cX9_follows 116 = .ok (.goto 4, 3) := by decide +kernel
theorem dX9_follows_119 : decode cX9_follows 119 = .ok (.iconst 0, 1) := by decide +kernel
theorem dX9_follows_120 : decode cX9_follows 120 = .ok (.istore 11, 2) := by decide +kernel
theorem dX9_follows_122 : decode cX9_follows 122 = .ok (.iconst 0, 1) := by decide +kernel
theorem dX9_follows_123 : decode cX9_follows 123 = .ok (.istore 12, 2) := by decide +kernel
theorem dX9_follows_125 : decode cX9_follows 125 = .ok (.iload 12, 2) := by decide +kernel
theorem dX9_follows_127 : decode cX9_follows 127 = .ok (.iconst 4, 1) := by decide +kernel
theorem dX9_follows_128 : decode cX9_follows 128 = .ok (.if_icmp .ge 68, 3) := by decide +kernel
theorem dX9_follows_131 : decode cX9_follows 131 = .ok (.aload_n 0, 1) := by decide +kernel
theorem dX9_follows_132 : decode cX9_follows 132 = .ok (.getfield 42, 3) := by decide +kernel
theorem dX9_follows_135 : decode cX9_follows 135 = .ok (.iload 12, 2) := by decide +kernel
theorem dX9_follows_137 : decode cX9_follows 137 = .ok (.dup2, 1) := by decide +kernel
theorem dX9_follows_138 : decode cX9_follows 138 = .ok (.iaload, 1) := by decide +kernel
theorem dX9_follows_139 : decode cX9_follows 139 = .ok (.aload_n 0, 1) := by decide +kernel
theorem dX9_follows_140 : decode cX9_follows 140 = .ok (.getfield 26, 3) := by decide +kernel
theorem dX9_follows_143 : decode cX9_follows 143 = .ok (.bipush 25, 2) := by decide +kernel
theorem dX9_follows_145 : decode cX9_follows 145 = .ok (.iload_n 1, 1) := by decide +kernel
theorem dX9_follows_146 : decode cX9_follows 146 = .ok (.imul, 1) := by decide +kernel
theorem dX9_follows_147 : decode cX9_follows 147 = .ok (.iconst 4, 1) := by decide +kernel
theorem dX9_follows_148 : decode cX9_follows 148 = .ok (.iadd, 1) := by decide +kernel
theorem dX9_follows_149 : decode cX9_follows 149 = .ok (.iconst 4, 1) := by decide +kernel
theorem dX9_follows_150 : decode cX9_follows 150 = .ok (.iload 6, 2) := by decide +kernel
theorem dX9_follows_152 : decode cX9_follows 152 = .ok (.imul, 1) := by decide +kernel
theorem dX9_follows_153 : decode cX9_follows 153 = .ok (.iadd, 1) := by decide +kernel
theorem dX9_follows_154 : decode cX9_follows 154 = .ok (.iload 12, 2) := by decide +kernel
theorem dX9_follows_156 : decode cX9_follows 156 = .ok (.iadd, 1) := by decide +kernel
theorem dX9_follows_157 : decode cX9_follows 157 = .ok (.iaload, 1) := by decide +kernel
theorem dX9_follows_158 : decode cX9_follows 158 = .ok (.iadd, 1) := by decide +kernel
theorem dX9_follows_159 : decode cX9_follows 159 = .ok (.iastore, 1) := by decide +kernel
theorem dX9_follows_160 : decode cX9_follows 160 = .ok (.iload 11, 2) := by decide +kernel
theorem dX9_follows_162 : decode cX9_follows 162 = .ok (.ifCond .eq 25, 3) := by decide +kernel
theorem dX9_follows_165 : decode cX9_follows 165 = .ok (.aload_n 0, 1) := by decide +kernel
theorem dX9_follows_166 : decode cX9_follows 166 = .ok (.getfield 42, 3) := by decide +kernel
theorem dX9_follows_169 : decode cX9_follows 169 = .ok (.iload 12, 2) := by decide +kernel
theorem dX9_follows_171 : decode cX9_follows 171 = .ok (.iaload, 1) := by decide +kernel
theorem dX9_follows_172 : decode cX9_follows 172 = .ok (.i2l, 1) := by decide +kernel
theorem dX9_follows_173 : decode cX9_follows 173 = .ok (.lconst 0, 1) := by decide +kernel
theorem dX9_follows_174 : decode cX9_follows 174 = .ok (.ldc2_w 98, 3) := by decide +kernel
theorem dX9_follows_177 : decode cX9_follows 177 = .ok (.invokestatic 62, 3) := by decide +kernel
theorem dX9_follows_180 : decode cX9_follows 180 = .ok (.ifCond .eq 7, 3) := by decide +kernel
theorem dX9_follows_183 : decode cX9_follows 183 = .ok (.iconst 1, 1) := by decide +kernel
theorem dX9_follows_184 : decode cX9_follows 184 = .ok (.goto 4, 3) := by decide +kernel
theorem dX9_follows_187 : decode cX9_follows 187 = .ok (.iconst 0, 1) := by decide +kernel
theorem dX9_follows_188 : decode cX9_follows 188 = .ok (.istore 11, 2) := by decide +kernel
theorem dX9_follows_190 : decode cX9_follows 190 = .ok (.iinc 12 1, 3) := by decide +kernel
theorem dX9_follows_193 : decode cX9_follows 193 = .ok (.goto (-68), 3) := by decide +kernel
theorem dX9_follows_196 : decode cX9_follows 196 = .ok (.iload 11, 2) := by decide +kernel
theorem dX9_follows_198 : decode cX9_follows 198 = .ok (.ifCond .ne 15, 3) := by decide +kernel
theorem dX9_follows_201 : decode cX9_follows 201 = .ok (.aload_n 0, 1) := by decide +kernel
theorem dX9_follows_202 : decode cX9_follows 202 = .ok (.lconst 0, 1) := by decide +kernel
theorem dX9_follows_203 : decode cX9_follows 203 = .ok (.putfield 160, 3) := by decide +kernel
theorem dX9_follows_206 : decode cX9_follows 206 = .ok (.aload_n 0, 1) := by decide +kernel
theorem dX9_follows_207 : decode cX9_follows 207 = .ok (.lconst 1, 1) := by decide +kernel
theorem dX9_follows_208 : decode cX9_follows 208 = .ok (.putfield 163, 3) := by decide +kernel
theorem dX9_follows_211 : decode cX9_follows 211 = .ok (.iconst 1, 1) := by decide +kernel
theorem dX9_follows_212 : decode cX9_follows 212 = .ok (.ireturn, 1) := by decide +kernel
theorem dX9_follows_213 : decode cX9_follows 213 = .ok (.lload 7, 2) := by decide +kernel
theorem dX9_follows_215 : decode cX9_follows 215 = .ok (.lload 9, 2) := by decide +kernel
theorem dX9_follows_217 : decode cX9_follows 217 = .ok (.invokestatic 150, 3) := by decide +kernel
theorem dX9_follows_220 : decode cX9_follows 220 = .ok (.lstore 12, 2) := by decide +kernel
theorem dX9_follows_222 : decode cX9_follows 222 = .ok (.lload 7, 2) := by decide +kernel
theorem dX9_follows_224 : decode cX9_follows 224 = .ok (.lload 12, 2) := by decide +kernel
theorem dX9_follows_226 : decode cX9_follows 226 = .ok (.ldiv, 1) := by decide +kernel
theorem dX9_follows_227 : decode cX9_follows 227 = .ok (.lstore 7, 2) := by decide +kernel
theorem dX9_follows_229 : decode cX9_follows 229 = .ok (.lload 9, 2) := by decide +kernel
theorem dX9_follows_231 : decode cX9_follows 231 = .ok (.lload 12, 2) := by decide +kernel
theorem dX9_follows_233 : decode cX9_follows 233 = .ok (.ldiv, 1) := by decide +kernel
theorem dX9_follows_234 : decode cX9_follows 234 = .ok (.lstore 9, 2) := by decide +kernel
theorem dX9_follows_236 : decode cX9_follows 236 = .ok (.aload_n 0, 1) := by decide +kernel
theorem dX9_follows_237 : decode cX9_follows 237 = .ok (.getfield 160, 3) := by decide +kernel
theorem dX9_follows_240 : decode cX9_follows 240 = .ok (.lload 9, 2) := by decide +kernel
theorem dX9_follows_242 : decode cX9_follows 242 = .ok (.invokestatic 150, 3) := by decide +kernel
theorem dX9_follows_245 : decode cX9_follows 245 = .ok (.lstore 14, 2) := by decide +kernel
theorem dX9_follows_247 : decode cX9_follows 247 = .ok (.lload 7, 2) := by decide +kernel
theorem dX9_follows_249 : decode cX9_follows 249 = .ok (.aload_n 0, 1) := by decide +kernel
theorem dX9_follows_250 : decode cX9_follows 250 = .ok (.getfield 163, 3) := by decide +kernel
theorem dX9_follows_253 : decode cX9_follows 253 = .ok (.invokestatic 150, 3) := by decide +kernel
theorem dX9_follows_256 : decode cX9_follows 256 = .ok (.lstore 16, 2) := by decide +kernel
theorem dX9_follows_258 : decode cX9_follows 258 = .ok (.aload_n 0, 1) := by decide +kernel
theorem dX9_follows_259 : decode cX9_follows 259 = .ok (.dup, 1) := by decide +kernel
theorem dX9_follows_260 : decode cX9_follows 260 = .ok (.getfield 160, 3) := by decide +kernel
theorem dX9_follows_263 : decode cX9_follows 263 = .ok (.lload 14, 2) := by decide +kernel
theorem dX9_follows_265 : decode cX9_follows 265 = .ok (.ldiv, 1) := by decide +kernel
theorem dX9_follows_266 : decode cX9_follows 266 = .ok (.putfield 160, 3) := by decide +kernel
theorem dX9_follows_269 : decode cX9_follows 269 = .ok (.lload 9, 2) := by decide +kernel
theorem dX9_follows_271 : decode cX9_follows 271 = .ok (.lload 14, 2) := by decide +kernel
theorem dX9_follows_273 : decode cX9_follows 273 = .ok (.ldiv, 1) := by decide +kernel
theorem dX9_follows_274 : decode cX9_follows 274 = .ok (.lstore 9, 2) := by decide +kernel
theorem dX9_follows_276 : decode cX9_follows 276 = .ok (.lload 7, 2) := by decide +kernel
theorem dX9_follows_278 : decode cX9_follows 278 = .ok (.lload 16, 2) := by decide +kernel
theorem dX9_follows_280 : decode cX9_follows 280 = .ok (.ldiv, 1) := by decide +kernel
theorem dX9_follows_281 : decode cX9_follows 281 = .ok (.lstore 7, 2) := by decide +kernel
theorem dX9_follows_283 : decode cX9_follows 283 = .ok (.aload_n 0, 1) := by decide +kernel
theorem dX9_follows_284 : decode cX9_follows 284 = .ok (.dup, 1) := by decide +kernel
theorem dX9_follows_285 : decode cX9_follows 285 = .ok (.getfield 163, 3) := by decide +kernel
theorem dX9_follows_288 : decode cX9_follows 288 = .ok (.lload 16, 2) := by decide +kernel
theorem dX9_follows_290 : decode cX9_follows 290 = .ok (.ldiv, 1) := by decide +kernel
theorem dX9_follows_291 : decode cX9_follows 291 = .ok (.putfield 163, 3) := by decide +kernel
theorem dX9_follows_294 : decode cX9_follows 294 = .ok (.aload_n 0, 1) := by decide +kernel
theorem dX9_follows_295 : decode cX9_follows 295 = .ok (.getfield 160, 3) := by decide +kernel
theorem dX9_follows_298 : decode cX9_follows 298 = .ok (.ldc2_w 166, 3) := by decide +kernel
theorem dX9_follows_301 : decode cX9_follows 301 = .ok (.lload 7, 2) := by decide +kernel
theorem dX9_follows_303 : decode cX9_follows 303 = .ok (.ldiv, 1) := by decide +kernel
theorem dX9_follows_304 : decode cX9_follows 304 = .ok (.lcmp, 1) := by decide +kernel
theorem dX9_follows_305 : decode cX9_follows 305 = .ok (.ifCond .gt 17, 3) := by decide +kernel
theorem dX9_follows_308 : decode cX9_follows 308 = .ok (.aload_n 0, 1) := by decide +kernel
theorem dX9_follows_309 : decode cX9_follows 309 = .ok (.getfield 163, 3) := by decide +kernel
theorem dX9_follows_312 : decode cX9_follows 312 = .ok (.ldc2_w 166, 3) := by decide +kernel
theorem dX9_follows_315 : decode cX9_follows 315 = .ok (.lload 9, 2) := by decide +kernel
theorem dX9_follows_317 : decode cX9_follows 317 = .ok (.ldiv, 1) := by decide +kernel
theorem dX9_follows_318 : decode cX9_follows 318 = .ok (.lcmp, 1) := by decide +kernel
theorem dX9_follows_319 : decode cX9_follows 319 = .ok (.ifCond .le 5, 3) := by decide +kernel
theorem dX9_follows_322 : decode cX9_follows 322 = .ok (.iconst 0, 1) := by decide +kernel
theorem dX9_follows_323 : decode cX9_follows 323 = .ok (.ireturn, 1) := by decide +kernel
theorem dX9_follows_324 : decode cX9_follows 324 = .ok (.aload_n 0, 1) := by decide +kernel
theorem dX9_follows_325 : decode cX9_follows 325 = .ok (.dup, 1) := by decide +kernel
theorem dX9_follows_326 : decode cX9_follows 326 = .ok (.getfield 160, 3) := by decide +kernel
theorem dX9_follows_329 : decode cX9_follows 329 = .ok (.lload 7, 2) := by decide +kernel
theorem dX9_follows_331 : decode cX9_follows 331 = .ok (.lmul, 1) := by decide +kernel
theorem dX9_follows_332 : decode cX9_follows 332 = .ok (.putfield 160, 3) := by decide +kernel
theorem dX9_follows_335 : decode cX9_follows 335 = .ok (.aload_n 0, 1) := by decide +kernel
theorem dX9_follows_336 : decode cX9_follows 336 = .ok (.dup, 1) := by decide +kernel
theorem dX9_follows_337 : decode cX9_follows 337 = .ok (.getfield 163, 3) := by decide +kernel
theorem dX9_follows_340 : decode cX9_follows 340 = .ok (.lload 9, 2) := by decide +kernel
theorem dX9_follows_342 : decode cX9_follows 342 = .ok (.lmul, 1) := by decide +kernel
theorem dX9_follows_343 : decode cX9_follows 343 = .ok (.putfield 163, 3) := by decide +kernel
theorem dX9_follows_346 : decode cX9_follows 346 = .ok (.iinc 5 1, 3) := by decide +kernel
theorem dX9_follows_349 : decode cX9_follows 349 = .ok (.goto (-299), 3) := by decide +kernel
theorem dX9_follows_352 : decode cX9_follows 352 = .ok (.iconst 1, 1) := by decide +kernel
theorem dX9_follows_353 : decode cX9_follows 353 = .ok (.ireturn, 1) := by decide +kernel
theorem dX9_chance_0 : decode cX9_chance 0 = .ok (.aload_n 0, 1) := by decide +kernel
theorem dX9_chance_1 : decode cX9_chance 1 = .ok (.iload_n 1, 1) := by decide +kernel
theorem dX9_chance_2 : decode cX9_chance 2 = .ok (.invokevirtual 89, 3) := by decide +kernel
theorem dX9_chance_5 : decode cX9_chance 5 = .ok (.ifCond .eq 19, 3) := by decide +kernel
theorem dX9_chance_8 : decode cX9_chance 8 = .ok (.iload_n 2, 1) := by decide +kernel
theorem dX9_chance_9 : decode cX9_chance 9 = .ok (.i2l, 1) := by decide +kernel
theorem dX9_chance_10 : decode cX9_chance 10 = .ok (.lconst 0, 1) := by decide +kernel
theorem dX9_chance_11 : decode cX9_chance 11 = .ok (.ldc2_w 168, 3) := by decide +kernel
theorem dX9_chance_14 : decode cX9_chance 14 = .ok (.invokestatic 62, 3) := by decide +kernel
theorem dX9_chance_17 : decode cX9_chance 17 = .ok (.ifCond .eq 7, 3) := by decide +kernel
theorem dX9_chance_20 : decode cX9_chance 20 = .ok (.iload_n 3, 1) := by decide +kernel
theorem dX9_chance_21 : decode cX9_chance 21 = .ok (.ifCond .ge 5, 3) := by decide +kernel
theorem dX9_chance_24 : decode cX9_chance 24 = .ok (.iconst (-1), 1) := by decide +kernel
theorem dX9_chance_25 : decode cX9_chance 25 = .ok (.ireturn, 1) := by decide +kernel
theorem dX9_chance_26 : decode cX9_chance 26 = .ok (.iconst 0, 1) := by decide +kernel
theorem dX9_chance_27 : decode cX9_chance 27 = .ok (.istore 4, 2) := by decide +kernel
theorem dX9_chance_29 : decode cX9_chance 29 = .ok (.iload 4, 2) := by decide +kernel
theorem dX9_chance_31 : decode cX9_chance 31 = .ok (.iload_n 2, 1) := by decide +kernel
theorem dX9_chance_32 : decode cX9_chance 32 = .ok (.if_icmp .ge 28, 3) := by decide +kernel
theorem dX9_chance_35 : decode cX9_chance 35 = .ok (.iload_n 3, 1) := by decide +kernel
theorem dX9_chance_36 : decode cX9_chance 36 = .ok (.iconst 2, 1) := by decide +kernel
theorem dX9_chance_37 : decode cX9_chance 37 = .ok (.iload 4, 2) := by decide +kernel
theorem dX9_chance_39 : decode cX9_chance 39 = .ok (.imul, 1) := by decide +kernel
theorem dX9_chance_40 : decode cX9_chance 40 = .ok (.ishr, 1) := by decide +kernel
theorem dX9_chance_41 : decode cX9_chance 41 = .ok (.iconst 3, 1) := by decide +kernel
theorem dX9_chance_42 : decode cX9_chance 42 = .ok (.iand, 1) := by decide +kernel
theorem dX9_chance_43 : decode cX9_chance 43 = .ok (.aload_n 0, 1) := by decide +kernel
theorem dX9_chance_44 : decode cX9_chance 44 = .ok (.getfield 23, 3) := by decide +kernel
theorem dX9_chance_47 : decode cX9_chance 47 = .ok (.iload_n 1, 1) := by decide +kernel
theorem dX9_chance_48 : decode cX9_chance 48 = .ok (.iaload, 1) := by decide +kernel
theorem dX9_chance_49 : decode cX9_chance 49 = .ok (.if_icmp .lt 5, 3) := by decide +kernel
theorem dX9_chance_52 : decode cX9_chance 52 = .ok (.iconst (-1), 1) := by decide +kernel
theorem dX9_chance_53 : decode cX9_chance 53 = .ok (.ireturn, 1) := by decide +kernel
theorem dX9_chance_54 : decode cX9_chance 54 = .ok (.iinc 4 1, 3) := by decide +kernel
theorem dX9_chance_57 : decode cX9_chance 57 = .ok (.goto (-28), 3) := by decide +kernel
theorem dX9_chance_60 : decode cX9_chance 60 = .ok (.iload_n 2, 1) := by decide +kernel
theorem dX9_chance_61 : decode cX9_chance 61 = .ok (.ifCond .le 14, 3) := by decide +kernel
theorem dX9_chance_64 : decode cX9_chance 64 = .ok (.aload_n 0, 1) := by decide +kernel
theorem dX9_chance_65 : decode cX9_chance 65 = .ok (.iload_n 1, 1) := by decide +kernel
theorem dX9_chance_66 : decode cX9_chance 66 = .ok (.invokevirtual 113, 3) := by decide +kernel
theorem dX9_chance_69 : decode cX9_chance 69 = .ok (.ifCond .ne 6, 3) := by decide +kernel
theorem dX9_chance_72 : decode cX9_chance 72 = .ok (.bipush (-2), 2) := by decide +kernel
theorem dX9_chance_74 : decode cX9_chance 74 = .ok (.ireturn, 1) := by decide +kernel
theorem dX9_chance_75 : decode cX9_chance 75 = .ok (.aload_n 0, 1) := by decide +kernel
theorem dX9_chance_76 : decode cX9_chance 76 = .ok (.iload_n 1, 1) := by decide +kernel
theorem dX9_chance_77 : decode cX9_chance 77 = .ok (.iload_n 2, 1) := by decide +kernel
theorem dX9_chance_78 : decode cX9_chance 78 = .ok (.iload_n 3, 1) := by decide +kernel
theorem dX9_chance_79 : decode cX9_chance 79 = .ok (.invokevirtual 170, 3) := by decide +kernel
theorem dX9_chance_82 : decode cX9_chance 82 = .ok (.ifCond .eq 18, 3) := by decide +kernel
theorem dX9_chance_85 : decode cX9_chance 85 = .ok (.aload_n 0, 1) := by decide +kernel
theorem dX9_chance_86 : decode cX9_chance 86 = .ok (.aload_n 0, 1) := by decide +kernel
theorem dX9_chance_87 : decode cX9_chance 87 = .ok (.getfield 160, 3) := by decide +kernel
theorem dX9_chance_90 : decode cX9_chance 90 = .ok (.aload_n 0, 1) := by decide +kernel
theorem dX9_chance_91 : decode cX9_chance 91 = .ok (.getfield 163, 3) := by decide +kernel
theorem dX9_chance_94 : decode cX9_chance 94 = .ok (.invokevirtual 174, 3) := by decide +kernel
theorem dX9_chance_97 : decode cX9_chance 97 = .ok (.goto 5, 3) := by decide +kernel
theorem dX9_chance_100 : decode cX9_chance 100 = .ok (.bipush (-6), 2) := by decide +kernel
theorem dX9_chance_102 : decode cX9_chance 102 = .ok (.ireturn, 1) := by decide +kernel
theorem dX9_evenFault_0 : decode cX9_evenFault 0 = .ok (.aload_n 0, 1) := by decide +kernel
theorem dX9_evenFault_1 : decode cX9_evenFault 1 = .ok (.iload_n 1, 1) := by decide +kernel
theorem dX9_evenFault_2 : decode cX9_evenFault 2 = .ok (.invokevirtual 110, 3) := by decide +kernel
theorem dX9_evenFault_5 : decode cX9_evenFault 5 = .ok (.ifCond .eq 11, 3) := by decide +kernel
theorem dX9_evenFault_8 : decode cX9_evenFault 8 = .ok (.aload_n 0, 1) := by decide +kernel
theorem dX9_evenFault_9 : decode cX9_evenFault 9 = .ok (.iload_n 1, 1) := by decide +kernel
theorem dX9_evenFault_10 : decode cX9_evenFault 10 = .ok (.invokevirtual 113, 3) := by decide +kernel
theorem dX9_evenFault_13 : decode cX9_evenFault 13 = .ok (.ifCond .ne 6, 3) := by decide +kernel
theorem dX9_evenFault_16 : decode cX9_evenFault 16 = .ok (.bipush (-2), 2) := by decide +kernel
theorem dX9_evenFault_18 : decode cX9_evenFault 18 = .ok (.ireturn, 1) := by decide +kernel
theorem dX9_evenFault_19 : decode cX9_evenFault 19 = .ok (.aload_n 0, 1) := by decide +kernel
theorem dX9_evenFault_20 : decode cX9_evenFault 20 = .ok (.lconst 1, 1) := by decide +kernel
theorem dX9_evenFault_21 : decode cX9_evenFault 21 = .ok (.putfield 178, 3) := by decide +kernel
theorem dX9_evenFault_24 : decode cX9_evenFault 24 = .ok (.iconst 0, 1) := by decide +kernel
theorem dX9_evenFault_25 : decode cX9_evenFault 25 = .ok (.istore_n 3, 1) := by decide +kernel
theorem dX9_evenFault_26 : decode cX9_evenFault 26 = .ok (.iload_n 3, 1) := by decide +kernel
theorem dX9_evenFault_27 : decode cX9_evenFault 27 = .ok (.iload_n 2, 1) := by decide +kernel
theorem dX9_evenFault_28 : decode cX9_evenFault 28 = .ok (.if_icmp .ge 63, 3) := by decide +kernel
theorem dX9_evenFault_31 : decode cX9_evenFault 31 = .ok (.aload_n 0, 1) := by decide +kernel
theorem dX9_evenFault_32 : decode cX9_evenFault 32 = .ok (.iload_n 1, 1) := by decide +kernel
theorem dX9_evenFault_33 : decode cX9_evenFault 33 = .ok (.invokevirtual 113, 3) := by decide +kernel
theorem dX9_evenFault_36 : decode cX9_evenFault 36 = .ok (.i2l, 1) := by decide +kernel
theorem dX9_evenFault_37 : decode cX9_evenFault 37 = .ok (.iload_n 3, 1) := by decide +kernel
theorem dX9_evenFault_38 : decode cX9_evenFault 38 = .ok (.i2l, 1) := by decide +kernel
theorem dX9_evenFault_39 : decode cX9_evenFault 39 = .ok (.aload_n 0, 1) := by decide +kernel
theorem dX9_evenFault_40 : decode cX9_evenFault 40 = .ok (.iload_n 1, 1) := by decide +kernel
theorem dX9_evenFault_41 : decode cX9_evenFault 41 = .ok (.iconst 0, 1) := by decide +kernel
theorem dX9_evenFault_42 : decode cX9_evenFault 42 = .ok (.invokevirtual 107, 3) := by decide +kernel
theorem dX9_evenFault_45 : decode cX9_evenFault 45 = .ok (.i2l, 1) := by decide +kernel
theorem dX9_evenFault_46 : decode cX9_evenFault 46 = .ok (.lmul, 1) := by decide +kernel
theorem dX9_evenFault_47 : decode cX9_evenFault 47 = .ok (.ladd, 1) := by decide +kernel
theorem dX9_evenFault_48 : decode cX9_evenFault 48 = .ok (.lstore 4, 2) := by decide +kernel
theorem dX9_evenFault_50 : decode cX9_evenFault 50 = .ok (.lload 4, 2) := by decide +kernel
theorem dX9_evenFault_52 : decode cX9_evenFault 52 = .ok (.lconst 0, 1) := by decide +kernel
theorem dX9_evenFault_53 : decode cX9_evenFault 53 = .ok (.lcmp, 1) := by decide +kernel
theorem dX9_evenFault_54 : decode cX9_evenFault 54 = .ok (.ifCond .le 31, 3) := by decide +kernel
theorem dX9_evenFault_57 : decode cX9_evenFault 57 = .ok (.aload_n 0, 1) := by decide +kernel
theorem dX9_evenFault_58 : decode cX9_evenFault 58 = .ok (.getfield 178, 3) := by decide +kernel
theorem dX9_evenFault_61 : decode cX9_evenFault 61 = .ok (.ldc2_w 181, 3) := by decide +kernel
theorem dX9_evenFault_64 : decode cX9_evenFault 64 = .ok (.lload 4, 2) := by decide +kernel
theorem dX9_evenFault_66 : decode cX9_evenFault 66 = .ok (.ldiv, 1) := by decide +kernel
theorem dX9_evenFault_67 : decode cX9_evenFault 67 = .ok (.lcmp, 1) := by decide +kernel
theorem dX9_evenFault_68 : decode cX9_evenFault 68 = .ok (.ifCond .le 6, 3) := by decide +kernel
theorem dX9_evenFault_71 : decode cX9_evenFault 71 = .ok (.bipush (-6), 2) := by decide +kernel
theorem dX9_evenFault_73 : decode cX9_evenFault 73 = .ok (.ireturn, 1) := by decide +kernel
theorem dX9_evenFault_74 : decode cX9_evenFault 74 = .ok (.aload_n 0, 1) := by decide +kernel
theorem dX9_evenFault_75 : decode cX9_evenFault 75 = .ok (.dup, 1) := by decide +kernel
theorem dX9_evenFault_76 : decode cX9_evenFault 76 = .ok (.getfield 178, 3) := by decide +kernel
theorem dX9_evenFault_79 : decode cX9_evenFault 79 = .ok (.lload 4, 2) := by decide +kernel
theorem dX9_evenFault_81 : decode cX9_evenFault 81 = .ok (.lmul, 1) := by decide +kernel
theorem dX9_evenFault_82 : decode cX9_evenFault 82 = .ok (.putfield 178, 3) := by decide +kernel
theorem dX9_evenFault_85 : decode cX9_evenFault 85 = .ok (.iinc 3 1, 3) := by decide +kernel
theorem dX9_evenFault_88 : decode cX9_evenFault 88 = .ok (.goto (-62), 3) := by decide +kernel
theorem dX9_evenFault_91 : decode cX9_evenFault 91 = .ok (.iconst 0, 1) := by decide +kernel
theorem dX9_evenFault_92 : decode cX9_evenFault 92 = .ok (.ireturn, 1) := by decide +kernel
theorem dX9_looksAt_0 : decode cX9_looksAt 0 = .ok (.aload_n 0, 1) := by decide +kernel
theorem dX9_looksAt_1 : decode cX9_looksAt 1 = .ok (.getfield 48, 3) := by decide +kernel
theorem dX9_looksAt_4 : decode cX9_looksAt 4 = .ok (.iconst 0, 1) := by decide +kernel
theorem dX9_looksAt_5 : decode cX9_looksAt 5 = .ok (.iload_n 2, 1) := by decide +kernel
theorem dX9_looksAt_6 : decode cX9_looksAt 6 = .ok (.bipush 13, 2) := by decide +kernel
theorem dX9_looksAt_8 : decode cX9_looksAt 8 = .ok (.irem, 1) := by decide +kernel
theorem dX9_looksAt_9 : decode cX9_looksAt 9 = .ok (.iastore, 1) := by decide +kernel
theorem dX9_looksAt_10 : decode cX9_looksAt 10 = .ok (.aload_n 0, 1) := by decide +kernel
theorem dX9_looksAt_11 : decode cX9_looksAt 11 = .ok (.getfield 48, 3) := by decide +kernel
theorem dX9_looksAt_14 : decode cX9_looksAt 14 = .ok (.iconst 1, 1) := by decide +kernel
theorem dX9_looksAt_15 : decode cX9_looksAt 15 = .ok (.iload_n 2, 1) := by decide +kernel
theorem dX9_looksAt_16 : decode cX9_looksAt 16 = .ok (.bipush 13, 2) := by decide +kernel
theorem dX9_looksAt_18 : decode cX9_looksAt 18 = .ok (.idiv, 1) := by decide +kernel
theorem dX9_looksAt_19 : decode cX9_looksAt 19 = .ok (.bipush 13, 2) := by decide +kernel
theorem dX9_looksAt_21 : decode cX9_looksAt 21 = .ok (.irem, 1) := by decide +kernel
theorem dX9_looksAt_22 : decode cX9_looksAt 22 = .ok (.iastore, 1) := by decide +kernel
theorem dX9_looksAt_23 : decode cX9_looksAt 23 = .ok (.aload_n 0, 1) := by decide +kernel
theorem dX9_looksAt_24 : decode cX9_looksAt 24 = .ok (.getfield 48, 3) := by decide +kernel
theorem dX9_looksAt_27 : decode cX9_looksAt 27 = .ok (.iconst 2, 1) := by decide +kernel
theorem dX9_looksAt_28 : decode cX9_looksAt 28 = .ok (.iload_n 2, 1) := by decide +kernel
theorem dX9_looksAt_29 : decode cX9_looksAt 29 = .ok (.sipush 169, 3) := by decide +kernel
theorem dX9_looksAt_32 : decode cX9_looksAt 32 = .ok (.idiv, 1) := by decide +kernel
theorem dX9_looksAt_33 : decode cX9_looksAt 33 = .ok (.iastore, 1) := by decide +kernel
theorem dX9_looksAt_34 : decode cX9_looksAt 34 = .ok (.aload_n 0, 1) := by decide +kernel
theorem dX9_looksAt_35 : decode cX9_looksAt 35 = .ok (.getfield 48, 3) := by decide +kernel
theorem dX9_looksAt_38 : decode cX9_looksAt 38 = .ok (.iconst 3, 1) := by decide +kernel
theorem dX9_looksAt_39 : decode cX9_looksAt 39 = .ok (.iload_n 3, 1) := by decide +kernel
theorem dX9_looksAt_40 : decode cX9_looksAt 40 = .ok (.aload_n 0, 1) := by decide +kernel
theorem dX9_looksAt_41 : decode cX9_looksAt 41 = .ok (.getfield 48, 3) := by decide +kernel
theorem dX9_looksAt_44 : decode cX9_looksAt 44 = .ok (.iconst 0, 1) := by decide +kernel
theorem dX9_looksAt_45 : decode cX9_looksAt 45 = .ok (.iaload, 1) := by decide +kernel
theorem dX9_looksAt_46 : decode cX9_looksAt 46 = .ok (.isub, 1) := by decide +kernel
theorem dX9_looksAt_47 : decode cX9_looksAt 47 = .ok (.aload_n 0, 1) := by decide +kernel
theorem dX9_looksAt_48 : decode cX9_looksAt 48 = .ok (.getfield 48, 3) := by decide +kernel
theorem dX9_looksAt_51 : decode cX9_looksAt 51 = .ok (.iconst 1, 1) := by decide +kernel
theorem dX9_looksAt_52 : decode cX9_looksAt 52 = .ok (.iaload, 1) := by decide +kernel
theorem dX9_looksAt_53 : decode cX9_looksAt 53 = .ok (.isub, 1) := by decide +kernel
theorem dX9_looksAt_54 : decode cX9_looksAt 54 = .ok (.aload_n 0, 1) := by decide +kernel
theorem dX9_looksAt_55 : decode cX9_looksAt 55 = .ok (.getfield 48, 3) := by decide +kernel
theorem dX9_looksAt_58 : decode cX9_looksAt 58 = .ok (.iconst 2, 1) := by decide +kernel
theorem dX9_looksAt_59 : decode cX9_looksAt 59 = .ok (.iaload, 1) := by decide +kernel
theorem dX9_looksAt_60 : decode cX9_looksAt 60 = .ok (.isub, 1) := by decide +kernel
theorem dX9_looksAt_61 : decode cX9_looksAt 61 = .ok (.iastore, 1) := by decide +kernel
theorem dX9_looksAt_62 : decode cX9_looksAt 62 = .ok (.iconst 0, 1) := by decide +kernel
theorem dX9_looksAt_63 : decode cX9_looksAt 63 = .ok (.istore 4, 2) := by decide +kernel
theorem dX9_looksAt_65 : decode cX9_looksAt 65 = .ok (.iload 4, 2) := by decide +kernel
theorem dX9_looksAt_67 : decode cX9_looksAt 67 = .ok (.iconst 4, 1) := by decide +kernel
theorem dX9_looksAt_68 : decode cX9_looksAt 68 = .ok (.if_icmp .ge 80, 3) := by decide +kernel
theorem dX9_looksAt_71 : decode cX9_looksAt 71 = .ok (.aload_n 0, 1) := by decide +kernel
theorem dX9_looksAt_72 : decode cX9_looksAt 72 = .ok (.getfield 51, 3) := by decide +kernel
theorem dX9_looksAt_75 : decode cX9_looksAt 75 = .ok (.iload 4, 2) := by decide +kernel
theorem dX9_looksAt_77 : decode cX9_looksAt 77 = .ok (.aload_n 0, 1) := by decide +kernel
theorem dX9_looksAt_78 : decode cX9_looksAt 78 = .ok (.getfield 26, 3) := by decide +kernel
theorem dX9_looksAt_81 : decode cX9_looksAt 81 = .ok (.bipush 25, 2) := by decide +kernel
theorem dX9_looksAt_83 : decode cX9_looksAt 83 = .ok (.iload_n 1, 1) := by decide +kernel
theorem dX9_looksAt_84 : decode cX9_looksAt 84 = .ok (.imul, 1) := by decide +kernel
theorem dX9_looksAt_85 : decode cX9_looksAt 85 = .ok (.iload 4, 2) := by decide +kernel
theorem dX9_looksAt_87 : decode cX9_looksAt 87 = .ok (.iadd, 1) := by decide +kernel
theorem dX9_looksAt_88 : decode cX9_looksAt 88 = .ok (.iaload, 1) := by decide +kernel
theorem dX9_looksAt_89 : decode cX9_looksAt 89 = .ok (.iastore, 1) := by decide +kernel
theorem dX9_looksAt_90 : decode cX9_looksAt 90 = .ok (.iconst 0, 1) := by decide +kernel
theorem dX9_looksAt_91 : decode cX9_looksAt 91 = .ok (.istore 5, 2) := by decide +kernel
theorem dX9_looksAt_93 : decode cX9_looksAt 93 = .ok (.iload 5, 2) := by decide +kernel
theorem dX9_looksAt_95 : decode cX9_looksAt 95 = .ok (.iconst 4, 1) := by decide +kernel
theorem dX9_looksAt_96 : decode cX9_looksAt 96 = .ok (.if_icmp .ge 46, 3) := by decide +kernel
theorem dX9_looksAt_99 : decode cX9_looksAt 99 = .ok (.aload_n 0, 1) := by decide +kernel
theorem dX9_looksAt_100 : decode cX9_looksAt 100 = .ok (.getfield 51, 3) := by decide +kernel
theorem dX9_looksAt_103 : decode cX9_looksAt 103 = .ok (.iload 4, 2) := by decide +kernel
theorem dX9_looksAt_105 : decode cX9_looksAt 105 = .ok (.dup2, 1) := by decide +kernel
theorem dX9_looksAt_106 : decode cX9_looksAt 106 = .ok (.iaload, 1) := by decide +kernel
theorem dX9_looksAt_107 : decode cX9_looksAt 107 = .ok (.aload_n 0, 1) := by decide +kernel
theorem dX9_looksAt_108 : decode cX9_looksAt 108 = .ok (.getfield 48, 3) := by decide +kernel
theorem dX9_looksAt_111 : decode cX9_looksAt 111 = .ok (.iload 5, 2) := by decide +kernel
theorem dX9_looksAt_113 : decode cX9_looksAt 113 = .ok (.iaload, 1) := by decide +kernel
theorem dX9_looksAt_114 : decode cX9_looksAt 114 = .ok (.aload_n 0, 1) := by decide +kernel
theorem dX9_looksAt_115 : decode cX9_looksAt 115 = .ok (.getfield 26, 3) := by decide +kernel
theorem dX9_looksAt_118 : decode cX9_looksAt 118 = .ok (.bipush 25, 2) := by decide +kernel
theorem dX9_looksAt_120 : decode cX9_looksAt 120 = .ok (.iload_n 1, 1) := by decide +kernel
theorem dX9_looksAt_121 : decode cX9_looksAt 121 = .ok (.imul, 1) := by decide +kernel
theorem dX9_looksAt_122 : decode cX9_looksAt 122 = .ok (.iconst 4, 1) := by decide +kernel
theorem dX9_looksAt_123 : decode cX9_looksAt 123 = .ok (.iadd, 1) := by decide +kernel
theorem dX9_looksAt_124 : decode cX9_looksAt 124 = .ok (.iconst 4, 1) := by decide +kernel
theorem dX9_looksAt_125 : decode cX9_looksAt 125 = .ok (.iload 5, 2) := by decide +kernel
theorem dX9_looksAt_127 : decode cX9_looksAt 127 = .ok (.imul, 1) := by decide +kernel
theorem dX9_looksAt_128 : decode cX9_looksAt 128 = .ok (.iadd, 1) := by decide +kernel
theorem dX9_looksAt_129 : decode cX9_looksAt 129 = .ok (.iload 4, 2) := by decide +kernel
theorem dX9_looksAt_131 : decode cX9_looksAt 131 = .ok (.iadd, 1) := by decide +kernel
theorem dX9_looksAt_132 : decode cX9_looksAt 132 = .ok (.iaload, 1) := by decide +kernel
theorem dX9_looksAt_133 : decode cX9_looksAt 133 = .ok (.imul, 1) := by decide +kernel
theorem dX9_looksAt_134 : decode cX9_looksAt 134 = .ok (.iadd, 1) := by decide +kernel
theorem dX9_looksAt_135 : decode cX9_looksAt 135 = .ok (.iastore, 1) := by decide +kernel
theorem dX9_looksAt_136 : decode cX9_looksAt 136 = .ok (.iinc 5 1, 3) := by decide +kernel
theorem dX9_looksAt_139 : decode cX9_looksAt 139 = .ok (.goto (-46), 3) := by decide +kernel
theorem dX9_looksAt_142 : decode cX9_looksAt 142 = .ok (.iinc 4 1, 3) := by decide +kernel
theorem dX9_looksAt_145 : decode cX9_looksAt 145 = .ok (.goto (-80), 3) := by decide +kernel
theorem dX9_looksAt_148 : decode cX9_looksAt 148 = .ok (.return_, 1) := by decide +kernel
theorem dX9_more_0 : decode cX9_more 0 = .ok (.iload_n 1, 1) := by decide +kernel
theorem dX9_more_1 : decode cX9_more 1 = .ok (.ifCond .ne 9, 3) := by decide +kernel
theorem dX9_more_4 : decode cX9_more 4 = .ok (.iload_n 0, 1) := by decide +kernel
theorem dX9_more_5 : decode cX9_more 5 = .ok (.iconst 1, 1) := by decide +kernel
theorem dX9_more_6 : decode cX9_more 6 = .ok (.iadd, 1) := by decide +kernel
theorem dX9_more_7 : decode cX9_more 7 = .ok (.goto 29, 3) := by decide +kernel
theorem dX9_more_10 : decode cX9_more 10 = .ok (.iload_n 1, 1) := by decide +kernel
theorem dX9_more_11 : decode cX9_more 11 = .ok (.iconst 1, 1) := by decide +kernel
theorem dX9_more_12 : decode cX9_more 12 = .ok (.if_icmp .ne 10, 3) := by decide +kernel
theorem dX9_more_15 : decode cX9_more 15 = .ok (.iload_n 0, 1) := by decide +kernel
theorem dX9_more_16 : decode cX9_more 16 = .ok (.bipush 13, 2) := by decide +kernel
theorem dX9_more_18 : decode cX9_more 18 = .ok (.iadd, 1) := by decide +kernel
theorem dX9_more_19 : decode cX9_more 19 = .ok (.goto 17, 3) := by decide +kernel
theorem dX9_more_22 : decode cX9_more 22 = .ok (.iload_n 1, 1) := by decide +kernel
theorem dX9_more_23 : decode cX9_more 23 = .ok (.iconst 2, 1) := by decide +kernel
theorem dX9_more_24 : decode cX9_more 24 = .ok (.if_icmp .ne 11, 3) := by decide +kernel
theorem dX9_more_27 : decode cX9_more 27 = .ok (.iload_n 0, 1) := by decide +kernel
theorem dX9_more_28 : decode cX9_more 28 = .ok (.sipush 169, 3) := by decide +kernel
theorem dX9_more_31 : decode cX9_more 31 = .ok (.iadd, 1) := by decide +kernel
theorem dX9_more_32 : decode cX9_more 32 = .ok (.goto 4, 3) := by decide +kernel
theorem dX9_more_35 : decode cX9_more 35 = .ok (.iload_n 0, 1) := by decide +kernel
theorem dX9_more_36 : decode cX9_more 36 = .ok (.ireturn, 1) := by decide +kernel
theorem dX9_at_0 : decode cX9_at 0 = .ok (.sipush 2197, 3) := by decide +kernel
theorem dX9_at_3 : decode cX9_at 3 = .ok (.iload_n 0, 1) := by decide +kernel
theorem dX9_at_4 : decode cX9_at 4 = .ok (.iconst 1, 1) := by decide +kernel
theorem dX9_at_5 : decode cX9_at 5 = .ok (.iand, 1) := by decide +kernel
theorem dX9_at_6 : decode cX9_at 6 = .ok (.imul, 1) := by decide +kernel
theorem dX9_at_7 : decode cX9_at 7 = .ok (.iload_n 1, 1) := by decide +kernel
theorem dX9_at_8 : decode cX9_at 8 = .ok (.iadd, 1) := by decide +kernel
theorem dX9_at_9 : decode cX9_at 9 = .ok (.ireturn, 1) := by decide +kernel
theorem dX9_goes_0 : decode cX9_goes 0 = .ok (.iconst 0, 1) := by decide +kernel
theorem dX9_goes_1 : decode cX9_goes 1 = .ok (.istore 7, 2) := by decide +kernel
theorem dX9_goes_3 : decode cX9_goes 3 = .ok (.iload 7, 2) := by decide +kernel
theorem dX9_goes_5 : decode cX9_goes 5 = .ok (.sipush 4394, 3) := by decide +kernel
theorem dX9_goes_8 : decode cX9_goes 8 = .ok (.if_icmp .ge 17, 3) := by decide +kernel
theorem dX9_goes_11 : decode cX9_goes 11 = .ok (.aload_n 0, 1) := by decide +kernel
theorem dX9_goes_12 : decode cX9_goes 12 = .ok (.getfield 45, 3) := by decide +kernel
theorem dX9_goes_15 : decode cX9_goes 15 = .ok (.iload 7, 2) := by decide +kernel
theorem dX9_goes_17 : decode cX9_goes 17 = .ok (.lconst 0, 1) := by decide +kernel
theorem dX9_goes_18 : decode cX9_goes 18 = .ok (.lastore, 1) := by decide +kernel
theorem dX9_goes_19 : decode cX9_goes 19 = .ok (.iinc 7 1, 3) := by decide +kernel
theorem dX9_goes_22 : decode cX9_goes 22 = .ok (.goto (-19), 3) := by decide +kernel
theorem dX9_goes_25 : decode cX9_goes 25 = .ok (.aload_n 0, 1) := by decide +kernel
theorem dX9_goes_26 : decode cX9_goes 26 = .ok (.getfield 45, 3) := by decide +kernel
theorem dX9_goes_29 : decode cX9_goes 29 = .ok (.iconst 0, 1) := by decide +kernel
theorem dX9_goes_30 : decode cX9_goes 30 = .ok (.lconst 1, 1) := by decide +kernel
theorem dX9_goes_31 : decode cX9_goes 31 = .ok (.lastore, 1) := by decide +kernel
theorem dX9_goes_32 : decode cX9_goes 32 = .ok (.aload_n 0, 1) := by decide +kernel
theorem dX9_goes_33 : decode cX9_goes 33 = .ok (.lconst 0, 1) := by decide +kernel
theorem dX9_goes_34 : decode cX9_goes 34 = .ok (.putfield 183, 3) := by decide +kernel
theorem dX9_goes_37 : decode cX9_goes 37 = .ok (.aload_n 0, 1) := by decide +kernel
theorem dX9_goes_38 : decode cX9_goes 38 = .ok (.getfield 178, 3) := by decide +kernel
theorem dX9_goes_41 : decode cX9_goes 41 = .ok (.lstore 7, 2) := by decide +kernel
theorem dX9_goes_43 : decode cX9_goes 43 = .ok (.iconst 0, 1) := by decide +kernel
theorem dX9_goes_44 : decode cX9_goes 44 = .ok (.istore 9, 2) := by decide +kernel
theorem dX9_goes_46 : decode cX9_goes 46 = .ok (.iload 9, 2) := by decide +kernel
theorem dX9_goes_48 : decode cX9_goes 48 = .ok (.iload_n 2, 1) := by decide +kernel
theorem dX9_goes_49 : decode cX9_goes 49 = .ok (.if_icmp .ge 165, 3) := by decide +kernel
theorem dX9_goes_52 : decode cX9_goes 52 = .ok (.aload_n 0, 1) := by decide +kernel
theorem dX9_goes_53 : decode cX9_goes 53 = .ok (.iload_n 1, 1) := by decide +kernel
theorem dX9_goes_54 : decode cX9_goes 54 = .ok (.invokevirtual 113, 3) := by decide +kernel
theorem dX9_goes_57 : decode cX9_goes 57 = .ok (.i2l, 1) := by decide +kernel
theorem dX9_goes_58 : decode cX9_goes 58 = .ok (.iload 9, 2) := by decide +kernel
theorem dX9_goes_60 : decode cX9_goes 60 = .ok (.i2l, 1) := by decide +kernel
theorem dX9_goes_61 : decode cX9_goes 61 = .ok (.aload_n 0, 1) := by decide +kernel
theorem dX9_goes_62 : decode cX9_goes 62 = .ok (.iload_n 1, 1) := by decide +kernel
theorem dX9_goes_63 : decode cX9_goes 63 = .ok (.iconst 0, 1) := by decide +kernel
theorem dX9_goes_64 : decode cX9_goes 64 = .ok (.invokevirtual 107, 3) := by decide +kernel
theorem dX9_goes_67 : decode cX9_goes 67 = .ok (.i2l, 1) := by decide +kernel
theorem dX9_goes_68 : decode cX9_goes 68 = .ok (.lmul, 1) := by decide +kernel
theorem dX9_goes_69 : decode cX9_goes 69 = .ok (.ladd, 1) := by decide +kernel
theorem dX9_goes_70 : decode cX9_goes 70 = .ok (.lstore 10, 2) := by decide +kernel
theorem dX9_goes_72 : decode cX9_goes 72 = .ok (.lload 10, 2) := by decide +kernel
theorem dX9_goes_74 : decode cX9_goes 74 = .ok (.lconst 0, 1) := by decide +kernel
theorem dX9_goes_75 : decode cX9_goes 75 = .ok (.lcmp, 1) := by decide +kernel
theorem dX9_goes_76 : decode cX9_goes 76 = .ok (.ifCond .le 11, 3) := by decide +kernel
theorem dX9_goes_79 : decode cX9_goes 79 = .ok (.lload 7, 2) := by decide +kernel
theorem dX9_goes_81 : decode cX9_goes 81 = .ok (.lload 10, 2) := by decide +kernel
theorem dX9_goes_83 : decode cX9_goes 83 = .ok (.ldiv, 1) := by decide +kernel
theorem dX9_goes_84 : decode cX9_goes 84 = .ok (.goto 5, 3) := by decide +kernel
theorem dX9_goes_87 : decode cX9_goes 87 = .ok (.lload 7, 2) := by decide +kernel
theorem dX9_goes_89 : decode cX9_goes 89 = .ok (.lstore 7, 2) := by decide +kernel
theorem dX9_goes_91 : decode cX9_goes 91 = .ok (.iconst 0, 1) := by decide +kernel
theorem dX9_goes_92 : decode cX9_goes 92 = .ok (.istore 12, 2) := by decide +kernel
theorem dX9_goes_94 : decode cX9_goes 94 = .ok (.iload 12, 2) := by decide +kernel
theorem dX9_goes_96 : decode cX9_goes 96 = .ok (.sipush 2197, 3) := by decide +kernel
theorem dX9_goes_99 : decode cX9_goes 99 = .ok (.if_icmp .ge 24, 3) := by decide +kernel
theorem dX9_goes_102 : decode cX9_goes 102 = .ok (.aload_n 0, 1) := by decide +kernel
theorem dX9_goes_103 : decode cX9_goes 103 = .ok (.getfield 45, 3) := by decide +kernel
theorem dX9_goes_106 : decode cX9_goes 106 = .ok (.iload 9, 2) := by decide +kernel
theorem dX9_goes_108 : decode cX9_goes 108 = .ok (.iconst 1, 1) := by decide +kernel
theorem dX9_goes_109 : decode cX9_goes 109 = .ok (.iadd, 1) := by decide +kernel
theorem dX9_goes_110 : decode cX9_goes 110 = .ok (.iload 12, 2) := by decide +kernel
theorem dX9_goes_112 : decode cX9_goes 112 = .ok (.invokestatic 186, 3) := by decide +kernel
theorem dX9_goes_115 : decode cX9_goes 115 = .ok (.lconst 0, 1) := by decide +kernel
theorem dX9_goes_116 : decode cX9_goes 116 = .ok (.lastore, 1) := by decide +kernel
theorem dX9_goes_117 : decode cX9_goes 117 = .ok (.iinc 12 1, 3) := by decide +kernel
theorem dX9_goes_120 : decode cX9_goes 120 = .ok (.goto (-26), 3) := by decide +kernel
theorem dX9_goes_123 : decode cX9_goes 123 = .ok (.iconst 0, 1) := by decide +kernel
theorem dX9_goes_124 : decode cX9_goes 124 = .ok (.istore 12, 2) := by decide +kernel
theorem dX9_goes_126 : decode cX9_goes 126 = .ok (.iload 12, 2) := by decide +kernel
theorem dX9_goes_128 : decode cX9_goes 128 = .ok (.sipush 2197, 3) := by decide +kernel
theorem dX9_goes_131 : decode cX9_goes 131 = .ok (.if_icmp .ge 77, 3) := by decide +kernel
theorem dX9_goes_134 : decode cX9_goes 134 = .ok (.aload_n 0, 1) := by decide +kernel
theorem dX9_goes_135 : decode cX9_goes 135 = .ok (.getfield 45, 3) := by decide +kernel
theorem dX9_goes_138 : decode cX9_goes 138 = .ok (.iload 9, 2) := by decide +kernel
theorem dX9_goes_140 : decode cX9_goes 140 = .ok (.iload 12, 2) := by decide +kernel
theorem dX9_goes_142 : decode cX9_goes 142 = .ok (.invokestatic 186, 3) := by decide +kernel
theorem dX9_goes_145 : decode cX9_goes 145 = .ok (.laload, 1) := by decide +kernel
theorem dX9_goes_146 : decode cX9_goes 146 = .ok (.lconst 0, 1) := by decide +kernel
theorem dX9_goes_147 : decode cX9_goes 147 = .ok (.lcmp, 1) := by decide +kernel
theorem dX9_goes_148 : decode cX9_goes 148 = .ok (.ifCond .le 54, 3) := by decide +kernel
theorem dX9_goes_151 : decode cX9_goes 151 = .ok (.aload_n 0, 1) := by decide +kernel
theorem dX9_goes_152 : decode cX9_goes 152 = .ok (.iload_n 1, 1) := by decide +kernel
theorem dX9_goes_153 : decode cX9_goes 153 = .ok (.iload 12, 2) := by decide +kernel
theorem dX9_goes_155 : decode cX9_goes 155 = .ok (.iload 9, 2) := by decide +kernel
theorem dX9_goes_157 : decode cX9_goes 157 = .ok (.invokevirtual 189, 3) := by decide +kernel
theorem dX9_goes_160 : decode cX9_goes 160 = .ok (.aload_n 0, 1) := by decide +kernel
theorem dX9_goes_161 : decode cX9_goes 161 = .ok (.iload_n 1, 1) := by decide +kernel
theorem dX9_goes_162 : decode cX9_goes 162 = .ok (.iload 12, 2) := by decide +kernel
theorem dX9_goes_164 : decode cX9_goes 164 = .ok (.iload 9, 2) := by decide +kernel
theorem dX9_goes_166 : decode cX9_goes 166 = .ok (.lload 10, 2) := by decide +kernel
theorem dX9_goes_168 : decode cX9_goes 168 = .ok (.lload 7, 2) := by decide +kernel
theorem dX9_goes_170 : decode cX9_goes 170 = .ok (.iload 9, 2) := by decide +kernel
theorem dX9_goes_172 : decode cX9_goes 172 = .ok (.iconst 1, 1) := by decide +kernel
theorem dX9_goes_173 : decode cX9_goes 173 = .ok (.iadd, 1) := by decide +kernel
theorem dX9_goes_174 : decode cX9_goes 174 = .ok (.iload_n 3, 1) := by decide +kernel
theorem dX9_goes_175 : decode cX9_goes 175 = .ok (.if_icmp .ne 8, 3) := by decide +kernel
theorem dX9_goes_178 : decode cX9_goes 178 = .ok (.iload 4, 2) := by decide +kernel
theorem dX9_goes_180 : decode cX9_goes 180 = .ok (.goto 4, 3) := by decide +kernel
theorem dX9_goes_183 : decode cX9_goes 183 = .ok (.iconst (-1), 1) := by decide +kernel
theorem dX9_goes_184 : decode cX9_goes 184 = .ok (.iload 9, 2) := by decide +kernel
theorem dX9_goes_186 : decode cX9_goes 186 = .ok (.iconst 1, 1) := by decide +kernel
theorem dX9_goes_187 : decode cX9_goes 187 = .ok (.iadd, 1) := by decide +kernel
theorem dX9_goes_188 : decode cX9_goes 188 = .ok (.iload 5, 2) := by decide +kernel
theorem dX9_goes_190 : decode cX9_goes 190 = .ok (.if_icmp .ne 8, 3) := by decide +kernel
theorem dX9_goes_193 : decode cX9_goes 193 = .ok (.iload 6, 2) := by decide +kernel
theorem dX9_goes_195 : decode cX9_goes 195 = .ok (.goto 4, 3) := by decide +kernel
theorem dX9_goes_198 : decode cX9_goes 198 = .ok (.iconst (-1), 1) := by decide +kernel
theorem dX9_goes_199 : decode cX9_goes 199 = .ok (.invokevirtual 193, 3) := by decide +kernel
theorem dX9_goes_202 : decode cX9_goes 202 = .ok (.iinc 12 1, 3) := by decide +kernel
theorem dX9_goes_205 : decode cX9_goes 205 = .ok (.goto (-79), 3) := by decide +kernel
theorem dX9_goes_208 : decode cX9_goes 208 = .ok (.iinc 9 1, 3) := by decide +kernel
theorem dX9_goes_211 : decode cX9_goes 211 = .ok (.goto (-165), 3) := by decide +kernel
theorem dX9_goes_214 : decode cX9_goes 214 = .ok (.return_, 1) := by decide +kernel
theorem dX9_spreads_0 : decode cX9_spreads 0 = .ok (.aload_n 0, 1) := by decide +kernel
theorem dX9_spreads_1 : decode cX9_spreads 1 = .ok (.getfield 45, 3) := by decide +kernel
theorem dX9_spreads_4 : decode cX9_spreads 4 = .ok (.iload_n 3, 1) := by decide +kernel
theorem dX9_spreads_5 : decode cX9_spreads 5 = .ok (.iload_n 2, 1) := by decide +kernel
theorem dX9_spreads_6 : decode cX9_spreads 6 = .ok (.invokestatic 186, 3) := by decide +kernel
theorem dX9_spreads_9 : decode cX9_spreads 9 = .ok (.laload, 1) := by decide +kernel
theorem dX9_spreads_10 : decode cX9_spreads 10 = .ok (.lstore 10, 2) := by decide +kernel
theorem dX9_spreads_12 : decode cX9_spreads 12 = .ok (.lload 4, 2) := by decide +kernel
theorem dX9_spreads_14 : decode cX9_spreads 14 = .ok (.lconst 0, 1) := by decide +kernel
theorem dX9_spreads_15 : decode cX9_spreads 15 = .ok (.lcmp, 1) := by decide +kernel
theorem dX9_spreads_16 : decode cX9_spreads 16 = .ok (.ifCond .gt 18, 3) := by decide +kernel
theorem dX9_spreads_19 : decode cX9_spreads 19 = .ok (.aload_n 0, 1) := by decide +kernel
theorem dX9_spreads_20 : decode cX9_spreads 20 = .ok (.dup, 1) := by decide +kernel
theorem dX9_spreads_21 : decode cX9_spreads 21 = .ok (.getfield 183, 3) := by decide +kernel
theorem dX9_spreads_24 : decode cX9_spreads 24 = .ok (.lload 10, 2) := by decide +kernel
theorem dX9_spreads_26 : decode cX9_spreads 26 = .ok (.lload 6, 2) := by decide +kernel
theorem dX9_spreads_28 : decode cX9_spreads 28 = .ok (.lmul, 1) := by decide +kernel
theorem dX9_spreads_29 : decode cX9_spreads 29 = .ok (.ladd, 1) := by decide +kernel
theorem dX9_spreads_30 : decode cX9_spreads 30 = .ok (.putfield 183, 3) := by decide +kernel
theorem dX9_spreads_33 : decode cX9_spreads 33 = .ok (.return_, 1) := by decide +kernel
theorem dX9_spreads_34 : decode cX9_spreads 34 = .ok (.iconst 0, 1) := by decide +kernel
theorem dX9_spreads_35 : decode cX9_spreads 35 = .ok (.istore 12, 2) := by decide +kernel
theorem dX9_spreads_37 : decode cX9_spreads 37 = .ok (.iload 12, 2) := by decide +kernel
theorem dX9_spreads_39 : decode cX9_spreads 39 = .ok (.iconst 4, 1) := by decide +kernel
theorem dX9_spreads_40 : decode cX9_spreads 40 = .ok (.if_icmp .ge 185, 3) := by decide +kernel
theorem dX9_spreads_43 : decode cX9_spreads 43 = .ok (.iconst 1, 1) := by decide +kernel
theorem dX9_spreads_44 : decode cX9_spreads 44 = .ok (.istore 13, 2) := by decide +kernel
theorem dX9_spreads_46 : decode cX9_spreads 46 = .ok (.iconst 0, 1) := by decide +kernel
theorem dX9_spreads_47 : decode cX9_spreads 47 = .ok (.istore 14, 2) := by decide +kernel
theorem dX9_spreads_49 : decode cX9_spreads 49 = .ok (.iload 14, 2) := by decide +kernel
theorem dX9_spreads_51 : decode cX9_spreads 51 = .ok (.iconst 4, 1) := by decide +kernel
theorem dX9_spreads_52 : decode cX9_spreads 52 = .ok (.if_icmp .ge 59, 3) := by decide +kernel
theorem dX9_spreads_55 : decode cX9_spreads 55 = .ok (.iload 13, 2) := by decide +kernel
theorem dX9_spreads_57 : decode cX9_spreads 57 = .ok (.ifCond .eq 45, 3) := by decide +kernel
theorem dX9_spreads_60 : decode cX9_spreads 60 = .ok (.aload_n 0, 1) := by decide +kernel
theorem dX9_spreads_61 : decode cX9_spreads 61 = .ok (.getfield 51, 3) := by decide +kernel
theorem dX9_spreads_64 : decode cX9_spreads 64 = .ok (.iload 14, 2) := by decide +kernel
theorem dX9_spreads_66 : decode cX9_spreads 66 = .ok (.iaload, 1) := by decide +kernel
theorem dX9_spreads_67 : decode cX9_spreads 67 = .ok (.aload_n 0, 1) := by decide +kernel
theorem dX9_spreads_68 : decode cX9_spreads 68 = .ok (.getfield 26, 3) := by decide +kernel
theorem dX9_spreads_71 : decode cX9_spreads 71 = .ok (.bipush 25, 2) := by decide +kernel
theorem dX9_spreads_73 : decode cX9_spreads 73 = .ok (.iload_n 1, 1) := by decide +kernel
theorem dX9_spreads_74 : decode cX9_spreads 74 = .ok (.imul, 1) := by decide +kernel
theorem dX9_spreads_75 : decode cX9_spreads 75 = .ok (.iconst 4, 1) := by decide +kernel
theorem dX9_spreads_76 : decode cX9_spreads 76 = .ok (.iadd, 1) := by decide +kernel
theorem dX9_spreads_77 : decode cX9_spreads 77 = .ok (.iconst 4, 1) := by decide +kernel
theorem dX9_spreads_78 : decode cX9_spreads 78 = .ok (.iload 12, 2) := by decide +kernel
theorem dX9_spreads_80 : decode cX9_spreads 80 = .ok (.imul, 1) := by decide +kernel
theorem dX9_spreads_81 : decode cX9_spreads 81 = .ok (.iadd, 1) := by decide +kernel
theorem dX9_spreads_82 : decode cX9_spreads 82 = .ok (.iload 14, 2) := by decide +kernel
theorem dX9_spreads_84 : decode cX9_spreads 84 = .ok (.iadd, 1) := by decide +kernel
theorem dX9_spreads_85 : decode cX9_spreads 85 = .ok (.iaload, 1) := by decide +kernel
theorem dX9_spreads_86 : decode cX9_spreads 86 = .ok (.iadd, 1) := by decide +kernel
theorem dX9_spreads_87 : decode cX9_spreads 87 = .ok (.i2l, 1) := by decide +kernel
theorem dX9_spreads_88 : decode cX9_spreads 88 = .ok (.lconst 0, 1) := by decide +kernel
theorem dX9_spreads_89 : decode cX9_spreads 89 = .ok (.ldc2_w 98, 3) := by decide +kernel
theorem dX9_spreads_92 : decode cX9_spreads 92 = .ok (.invokestatic 62, 3) := by decide +kernel
theorem dX9_spreads_95 : decode cX9_spreads 95 = .ok (.ifCond .eq 7, 3) := by decide +kernel
theorem dX9_spreads_98 : decode cX9_spreads 98 = .ok (.iconst 1, 1) := by decide +kernel
theorem dX9_spreads_99 : decode cX9_spreads 99 = .ok (.goto 4, 3) := by decide +kernel
theorem dX9_spreads_102 : decode cX9_spreads 102 = .ok (.iconst 0, 1) := by decide +kernel
theorem dX9_spreads_103 : decode cX9_spreads 103 = .ok (.istore 13, 2) := by decide +kernel
theorem dX9_spreads_105 : decode cX9_spreads 105 = .ok (.iinc 14 1, 3) := by decide +kernel
theorem dX9_spreads_108 : decode cX9_spreads 108 = .ok (.goto (-59), 3) := by decide +kernel
theorem dX9_spreads_111 : decode cX9_spreads 111 = .ok (.aload_n 0, 1) := by decide +kernel
theorem dX9_spreads_112 : decode cX9_spreads 112 = .ok (.getfield 51, 3) := by decide +kernel
theorem dX9_spreads_115 : decode cX9_spreads 115 = .ok (.iload 12, 2) := by decide +kernel
theorem dX9_spreads_117 : decode cX9_spreads 117 = .ok (.iaload, 1) := by decide +kernel
theorem dX9_spreads_118 : decode cX9_spreads 118 = .ok (.ifCond .le 31, 3) := by decide +kernel
theorem dX9_spreads_121 : decode cX9_spreads 121 = .ok (.iload 13, 2) := by decide +kernel
theorem dX9_spreads_123 : decode cX9_spreads 123 = .ok (.ifCond .ne 26, 3) := by decide +kernel
theorem dX9_spreads_126 : decode cX9_spreads 126 = .ok (.aload_n 0, 1) := by decide +kernel
theorem dX9_spreads_127 : decode cX9_spreads 127 = .ok (.dup, 1) := by decide +kernel
theorem dX9_spreads_128 : decode cX9_spreads 128 = .ok (.getfield 183, 3) := by decide +kernel
theorem dX9_spreads_131 : decode cX9_spreads 131 = .ok (.lload 10, 2) := by decide +kernel
theorem dX9_spreads_133 : decode cX9_spreads 133 = .ok (.aload_n 0, 1) := by decide +kernel
theorem dX9_spreads_134 : decode cX9_spreads 134 = .ok (.getfield 51, 3) := by decide +kernel
theorem dX9_spreads_137 : decode cX9_spreads 137 = .ok (.iload 12, 2) := by decide +kernel
theorem dX9_spreads_139 : decode cX9_spreads 139 = .ok (.iaload, 1) := by decide +kernel
theorem dX9_spreads_140 : decode cX9_spreads 140 = .ok (.i2l, 1) := by decide +kernel
theorem dX9_spreads_141 : decode cX9_spreads 141 = .ok (.lmul, 1) := by decide +kernel
theorem dX9_spreads_142 : decode cX9_spreads 142 = .ok (.lload 6, 2) := by decide +kernel
theorem dX9_spreads_144 : decode cX9_spreads 144 = .ok (.lmul, 1) := by decide +kernel
theorem dX9_spreads_145 : decode cX9_spreads 145 = .ok (.ladd, 1) := by decide +kernel
theorem dX9_spreads_146 : decode cX9_spreads 146 = .ok (.putfield 183, 3) := by decide +kernel
theorem dX9_spreads_149 : decode cX9_spreads 149 = .ok (.aload_n 0, 1) := by decide +kernel
theorem dX9_spreads_150 : decode cX9_spreads 150 = .ok (.getfield 51, 3) := by decide +kernel
theorem dX9_spreads_153 : decode cX9_spreads 153 = .ok (.iload 12, 2) := by decide +kernel
theorem dX9_spreads_155 : decode cX9_spreads 155 = .ok (.iaload, 1) := by decide +kernel
theorem dX9_spreads_156 : decode cX9_spreads 156 = .ok (.ifCond .le 63, 3) := by decide +kernel
theorem dX9_spreads_159 : decode cX9_spreads 159 = .ok (.iload 13, 2) := by decide +kernel
theorem dX9_spreads_161 : decode cX9_spreads 161 = .ok (.ifCond .eq 58, 3) := by decide +kernel
theorem dX9_spreads_164 : decode cX9_spreads 164 = .ok (.iload 8, 2) := by decide +kernel
theorem dX9_spreads_166 : decode cX9_spreads 166 = .ok (.ifCond .lt 10, 3) := by decide +kernel
theorem dX9_spreads_169 : decode cX9_spreads 169 = .ok (.iload 8, 2) := by decide +kernel
theorem dX9_spreads_171 : decode cX9_spreads 171 = .ok (.iload 12, 2) := by decide +kernel
theorem dX9_spreads_173 : decode cX9_spreads 173 = .ok (.if_icmp .ne 46, 3) := by decide +kernel
theorem dX9_spreads_176 : decode cX9_spreads 176 = .ok (.iload 9, 2) := by decide +kernel
theorem dX9_spreads_178 : decode cX9_spreads 178 = .ok (.ifCond .lt 10, 3) := by decide +kernel
theorem dX9_spreads_181 : decode cX9_spreads 181 = .ok (.iload 9, 2) := by decide +kernel
theorem dX9_spreads_183 : decode cX9_spreads 183 = .ok (.iload 12, 2) := by decide +kernel
theorem dX9_spreads_185 : decode cX9_spreads 185 = .ok (.if_icmp .ne 34, 3) := by decide +kernel
theorem dX9_spreads_188 : decode cX9_spreads 188 = .ok (.aload_n 0, 1) := by decide +kernel
theorem dX9_spreads_189 : decode cX9_spreads 189 = .ok (.getfield 45, 3) := by decide +kernel
theorem dX9_spreads_192 : decode cX9_spreads 192 = .ok (.iload_n 3, 1) := by decide +kernel
theorem dX9_spreads_193 : decode cX9_spreads 193 = .ok (.iconst 1, 1) := by decide +kernel
theorem dX9_spreads_194 : decode cX9_spreads 194 = .ok (.iadd, 1) := by decide +kernel
theorem dX9_spreads_195 : decode cX9_spreads 195 = .ok (.iload_n 2, 1) := by decide +kernel
theorem dX9_spreads_196 : decode cX9_spreads 196 = .ok (.iload 12, 2) := by decide +kernel
theorem dX9_spreads_198 : decode cX9_spreads 198 = .ok (.invokestatic 197, 3) := by decide +kernel
theorem dX9_spreads_201 : decode cX9_spreads 201 = .ok (.invokestatic 186, 3) := by decide +kernel
theorem dX9_spreads_204 : decode cX9_spreads 204 = .ok (.dup2, 1) := by decide +kernel
theorem dX9_spreads_205 : decode cX9_spreads 205 = .ok (.laload, 1) := by decide +kernel
theorem dX9_spreads_206 : decode cX9_spreads 206 = .ok (.lload 10, 2) := by decide +kernel
theorem dX9_spreads_208 : decode cX9_spreads 208 = .ok (.aload_n 0, 1) := by decide +kernel
theorem dX9_spreads_209 : decode cX9_spreads 209 = .ok (.getfield 51, 3) := by decide +kernel
theorem dX9_spreads_212 : decode cX9_spreads 212 = .ok (.iload 12, 2) := by decide +kernel
theorem dX9_spreads_214 : decode cX9_spreads 214 = .ok (.iaload, 1) := by decide +kernel
theorem dX9_spreads_215 : decode cX9_spreads 215 = .ok (.i2l, 1) := by decide +kernel
theorem dX9_spreads_216 : decode cX9_spreads 216 = .ok (.lmul, 1) := by decide +kernel
theorem dX9_spreads_217 : decode cX9_spreads 217 = .ok (.ladd, 1) := by decide +kernel
theorem dX9_spreads_218 : decode cX9_spreads 218 = .ok (.lastore, 1) := by decide +kernel
theorem dX9_spreads_219 : decode cX9_spreads 219 = .ok (.iinc 12 1, 3) := by decide +kernel
theorem dX9_spreads_222 : decode cX9_spreads 222 = .ok (.goto (-185), 3) := by decide +kernel
theorem dX9_spreads_225 : decode cX9_spreads 225 = .ok (.return_, 1) := by decide +kernel
theorem dX9_isAsked_0 : decode cX9_isAsked 0 = .ok (.aload_n 0, 1) := by decide +kernel
theorem dX9_isAsked_1 : decode cX9_isAsked 1 = .ok (.iload_n 1, 1) := by decide +kernel
theorem dX9_isAsked_2 : decode cX9_isAsked 2 = .ok (.invokevirtual 89, 3) := by decide +kernel
theorem dX9_isAsked_5 : decode cX9_isAsked 5 = .ok (.ifCond .eq 19, 3) := by decide +kernel
theorem dX9_isAsked_8 : decode cX9_isAsked 8 = .ok (.iload_n 2, 1) := by decide +kernel
theorem dX9_isAsked_9 : decode cX9_isAsked 9 = .ok (.i2l, 1) := by decide +kernel
theorem dX9_isAsked_10 : decode cX9_isAsked 10 = .ok (.lconst 0, 1) := by decide +kernel
theorem dX9_isAsked_11 : decode cX9_isAsked 11 = .ok (.ldc2_w 168, 3) := by decide +kernel
theorem dX9_isAsked_14 : decode cX9_isAsked 14 = .ok (.invokestatic 62, 3) := by decide +kernel
theorem dX9_isAsked_17 : decode cX9_isAsked 17 = .ok (.ifCond .eq 7, 3) := by decide +kernel
theorem dX9_isAsked_20 : decode cX9_isAsked 20 = .ok (.iconst 1, 1) := by decide +kernel
theorem dX9_isAsked_21 : decode cX9_isAsked 21 = .ok (.goto 4, 3) := by decide +kernel
theorem dX9_isAsked_24 : decode cX9_isAsked 24 = .ok (.iconst 0, 1) := by decide +kernel
theorem dX9_isAsked_25 : decode cX9_isAsked 25 = .ok (.ireturn, 1) := by decide +kernel
theorem dX9_times_0 : decode cX9_times 0 = .ok (.aload_n 0, 1) := by decide +kernel
theorem dX9_times_1 : decode cX9_times 1 = .ok (.iload_n 1, 1) := by decide +kernel
theorem dX9_times_2 : decode cX9_times 2 = .ok (.iload_n 2, 1) := by decide +kernel
theorem dX9_times_3 : decode cX9_times 3 = .ok (.invokevirtual 200, 3) := by decide +kernel
theorem dX9_times_6 : decode cX9_times 6 = .ok (.ifCond .eq 25, 3) := by decide +kernel
theorem dX9_times_9 : decode cX9_times 9 = .ok (.aload_n 0, 1) := by decide +kernel
theorem dX9_times_10 : decode cX9_times 10 = .ok (.iload_n 1, 1) := by decide +kernel
theorem dX9_times_11 : decode cX9_times 11 = .ok (.iload_n 3, 1) := by decide +kernel
theorem dX9_times_12 : decode cX9_times 12 = .ok (.invokevirtual 92, 3) := by decide +kernel
theorem dX9_times_15 : decode cX9_times 15 = .ok (.ifCond .eq 16, 3) := by decide +kernel
theorem dX9_times_18 : decode cX9_times 18 = .ok (.iload 4, 2) := by decide +kernel
theorem dX9_times_20 : decode cX9_times 20 = .ok (.i2l, 1) := by decide +kernel
theorem dX9_times_21 : decode cX9_times 21 = .ok (.lconst 0, 1) := by decide +kernel
theorem dX9_times_22 : decode cX9_times 22 = .ok (.ldc2_w 168, 3) := by decide +kernel
theorem dX9_times_25 : decode cX9_times 25 = .ok (.invokestatic 62, 3) := by decide +kernel
theorem dX9_times_28 : decode cX9_times 28 = .ok (.ifCond .ne 5, 3) := by decide +kernel
theorem dX9_times_31 : decode cX9_times 31 = .ok (.iconst (-1), 1) := by decide +kernel
theorem dX9_times_32 : decode cX9_times 32 = .ok (.ireturn, 1) := by decide +kernel
theorem dX9_times_33 : decode cX9_times 33 = .ok (.aload_n 0, 1) := by decide +kernel
theorem dX9_times_34 : decode cX9_times 34 = .ok (.iload_n 1, 1) := by decide +kernel
theorem dX9_times_35 : decode cX9_times 35 = .ok (.iload_n 2, 1) := by decide +kernel
theorem dX9_times_36 : decode cX9_times 36 = .ok (.invokevirtual 203, 3) := by decide +kernel
theorem dX9_times_39 : decode cX9_times 39 = .ok (.istore 5, 2) := by decide +kernel
theorem dX9_times_41 : decode cX9_times 41 = .ok (.iload 5, 2) := by decide +kernel
theorem dX9_times_43 : decode cX9_times 43 = .ok (.ifCond .ge 6, 3) := by decide +kernel
theorem dX9_times_46 : decode cX9_times 46 = .ok (.iload 5, 2) := by decide +kernel
theorem dX9_times_48 : decode cX9_times 48 = .ok (.ireturn, 1) := by decide +kernel
theorem dX9_times_49 : decode cX9_times 49 = .ok (.aload_n 0, 1) := by decide +kernel
theorem dX9_times_50 : decode cX9_times 50 = .ok (.iload_n 1, 1) := by decide +kernel
theorem dX9_times_51 : decode cX9_times 51 = .ok (.iload_n 2, 1) := by decide +kernel
theorem dX9_times_52 : decode cX9_times 52 = .ok (.iconst 0, 1) := by decide +kernel
theorem dX9_times_53 : decode cX9_times 53 = .ok (.iconst 0, 1) := by decide +kernel
theorem dX9_times_54 : decode cX9_times 54 = .ok (.iconst 0, 1) := by decide +kernel
theorem dX9_times_55 : decode cX9_times 55 = .ok (.iconst 0, 1) := by decide +kernel
theorem dX9_times_56 : decode cX9_times 56 = .ok (.invokevirtual 206, 3) := by decide +kernel
theorem dX9_times_59 : decode cX9_times 59 = .ok (.lconst 0, 1) := by decide +kernel
theorem dX9_times_60 : decode cX9_times 60 = .ok (.lstore 6, 2) := by decide +kernel
theorem dX9_times_62 : decode cX9_times 62 = .ok (.iconst 0, 1) := by decide +kernel
theorem dX9_times_63 : decode cX9_times 63 = .ok (.istore 8, 2) := by decide +kernel
theorem dX9_times_65 : decode cX9_times 65 = .ok (.iload 8, 2) := by decide +kernel
theorem dX9_times_67 : decode cX9_times 67 = .ok (.sipush 2197, 3) := by decide +kernel
theorem dX9_times_70 : decode cX9_times 70 = .ok (.if_icmp .ge 64, 3) := by decide +kernel
theorem dX9_times_73 : decode cX9_times 73 = .ok (.aload_n 0, 1) := by decide +kernel
theorem dX9_times_74 : decode cX9_times 74 = .ok (.getfield 45, 3) := by decide +kernel
theorem dX9_times_77 : decode cX9_times 77 = .ok (.iload_n 2, 1) := by decide +kernel
theorem dX9_times_78 : decode cX9_times 78 = .ok (.iload 8, 2) := by decide +kernel
theorem dX9_times_80 : decode cX9_times 80 = .ok (.invokestatic 186, 3) := by decide +kernel
theorem dX9_times_83 : decode cX9_times 83 = .ok (.laload, 1) := by decide +kernel
theorem dX9_times_84 : decode cX9_times 84 = .ok (.lconst 0, 1) := by decide +kernel
theorem dX9_times_85 : decode cX9_times 85 = .ok (.lcmp, 1) := by decide +kernel
theorem dX9_times_86 : decode cX9_times 86 = .ok (.ifCond .le 42, 3) := by decide +kernel
theorem dX9_times_89 : decode cX9_times 89 = .ok (.aload_n 0, 1) := by decide +kernel
theorem dX9_times_90 : decode cX9_times 90 = .ok (.iload_n 1, 1) := by decide +kernel
theorem dX9_times_91 : decode cX9_times 91 = .ok (.iload 8, 2) := by decide +kernel
theorem dX9_times_93 : decode cX9_times 93 = .ok (.iload_n 2, 1) := by decide +kernel
theorem dX9_times_94 : decode cX9_times 94 = .ok (.invokevirtual 189, 3) := by decide +kernel
theorem dX9_times_97 : decode cX9_times 97 = .ok (.lload 6, 2) := by decide +kernel
theorem dX9_times_99 : decode cX9_times 99 = .ok (.aload_n 0, 1) := by decide +kernel
theorem dX9_times_100 : decode cX9_times 100 = .ok (.getfield 48, 3) := by decide +kernel
theorem dX9_times_103 : decode cX9_times 103 = .ok (.iload_n 3, 1) := by decide +kernel
theorem dX9_times_104 : decode cX9_times 104 = .ok (.iaload, 1) := by decide +kernel
theorem dX9_times_105 : decode cX9_times 105 = .ok (.iload 4, 2) := by decide +kernel
theorem dX9_times_107 : decode cX9_times 107 = .ok (.if_icmp .ne 17, 3) := by decide +kernel
theorem dX9_times_110 : decode cX9_times 110 = .ok (.aload_n 0, 1) := by decide +kernel
theorem dX9_times_111 : decode cX9_times 111 = .ok (.getfield 45, 3) := by decide +kernel
theorem dX9_times_114 : decode cX9_times 114 = .ok (.iload_n 2, 1) := by decide +kernel
theorem dX9_times_115 : decode cX9_times 115 = .ok (.iload 8, 2) := by decide +kernel
theorem dX9_times_117 : decode cX9_times 117 = .ok (.invokestatic 186, 3) := by decide +kernel
theorem dX9_times_120 : decode cX9_times 120 = .ok (.laload, 1) := by decide +kernel
theorem dX9_times_121 : decode cX9_times 121 = .ok (.goto 4, 3) := by decide +kernel
theorem dX9_times_124 : decode cX9_times 124 = .ok (.lconst 0, 1) := by decide +kernel
theorem dX9_times_125 : decode cX9_times 125 = .ok (.ladd, 1) := by decide +kernel
theorem dX9_times_126 : decode cX9_times 126 = .ok (.lstore 6, 2) := by decide +kernel
theorem dX9_times_128 : decode cX9_times 128 = .ok (.iinc 8 1, 3) := by decide +kernel
theorem dX9_times_131 : decode cX9_times 131 = .ok (.goto (-66), 3) := by decide +kernel
theorem dX9_times_134 : decode cX9_times 134 = .ok (.aload_n 0, 1) := by decide +kernel
theorem dX9_times_135 : decode cX9_times 135 = .ok (.lload 6, 2) := by decide +kernel
theorem dX9_times_137 : decode cX9_times 137 = .ok (.aload_n 0, 1) := by decide +kernel
theorem dX9_times_138 : decode cX9_times 138 = .ok (.getfield 178, 3) := by decide +kernel
theorem dX9_times_141 : decode cX9_times 141 = .ok (.invokevirtual 174, 3) := by decide +kernel
theorem dX9_times_144 : decode cX9_times 144 = .ok (.ireturn, 1) := by decide +kernel
theorem dX9_left_0 : decode cX9_left 0 = .ok (.aload_n 0, 1) := by decide +kernel
theorem dX9_left_1 : decode cX9_left 1 = .ok (.iload_n 1, 1) := by decide +kernel
theorem dX9_left_2 : decode cX9_left 2 = .ok (.iload_n 2, 1) := by decide +kernel
theorem dX9_left_3 : decode cX9_left 3 = .ok (.invokevirtual 200, 3) := by decide +kernel
theorem dX9_left_6 : decode cX9_left 6 = .ok (.ifCond .eq 25, 3) := by decide +kernel
theorem dX9_left_9 : decode cX9_left 9 = .ok (.aload_n 0, 1) := by decide +kernel
theorem dX9_left_10 : decode cX9_left 10 = .ok (.iload_n 1, 1) := by decide +kernel
theorem dX9_left_11 : decode cX9_left 11 = .ok (.iload_n 3, 1) := by decide +kernel
theorem dX9_left_12 : decode cX9_left 12 = .ok (.invokevirtual 92, 3) := by decide +kernel
theorem dX9_left_15 : decode cX9_left 15 = .ok (.ifCond .eq 16, 3) := by decide +kernel
theorem dX9_left_18 : decode cX9_left 18 = .ok (.iload 4, 2) := by decide +kernel
theorem dX9_left_20 : decode cX9_left 20 = .ok (.i2l, 1) := by decide +kernel
theorem dX9_left_21 : decode cX9_left 21 = .ok (.lconst 0, 1) := by decide +kernel
theorem dX9_left_22 : decode cX9_left 22 = .ok (.ldc2_w 210, 3) := by decide +kernel
theorem dX9_left_25 : decode cX9_left 25 = .ok (.invokestatic 62, 3) := by decide +kernel
theorem dX9_left_28 : decode cX9_left 28 = .ok (.ifCond .ne 5, 3) := by decide +kernel
theorem dX9_left_31 : decode cX9_left 31 = .ok (.iconst (-1), 1) := by decide +kernel
theorem dX9_left_32 : decode cX9_left 32 = .ok (.ireturn, 1) := by decide +kernel
theorem dX9_left_33 : decode cX9_left 33 = .ok (.aload_n 0, 1) := by decide +kernel
theorem dX9_left_34 : decode cX9_left 34 = .ok (.iload_n 1, 1) := by decide +kernel
theorem dX9_left_35 : decode cX9_left 35 = .ok (.iload_n 2, 1) := by decide +kernel
theorem dX9_left_36 : decode cX9_left 36 = .ok (.invokevirtual 203, 3) := by decide +kernel
theorem dX9_left_39 : decode cX9_left 39 = .ok (.istore 5, 2) := by decide +kernel
theorem dX9_left_41 : decode cX9_left 41 = .ok (.iload 5, 2) := by decide +kernel
theorem dX9_left_43 : decode cX9_left 43 = .ok (.ifCond .ge 6, 3) := by decide +kernel
theorem dX9_left_46 : decode cX9_left 46 = .ok (.iload 5, 2) := by decide +kernel
theorem dX9_left_48 : decode cX9_left 48 = .ok (.ireturn, 1) := by decide +kernel
theorem dX9_left_49 : decode cX9_left 49 = .ok (.aload_n 0, 1) := by decide +kernel
theorem dX9_left_50 : decode cX9_left 50 = .ok (.iload_n 1, 1) := by decide +kernel
theorem dX9_left_51 : decode cX9_left 51 = .ok (.iload_n 2, 1) := by decide +kernel
theorem dX9_left_52 : decode cX9_left 52 = .ok (.iconst 0, 1) := by decide +kernel
theorem dX9_left_53 : decode cX9_left 53 = .ok (.iconst 0, 1) := by decide +kernel
theorem dX9_left_54 : decode cX9_left 54 = .ok (.iconst 0, 1) := by decide +kernel
theorem dX9_left_55 : decode cX9_left 55 = .ok (.iconst 0, 1) := by decide +kernel
theorem dX9_left_56 : decode cX9_left 56 = .ok (.invokevirtual 206, 3) := by decide +kernel
theorem dX9_left_59 : decode cX9_left 59 = .ok (.lconst 0, 1) := by decide +kernel
theorem dX9_left_60 : decode cX9_left 60 = .ok (.lstore 6, 2) := by decide +kernel
theorem dX9_left_62 : decode cX9_left 62 = .ok (.iconst 0, 1) := by decide +kernel
theorem dX9_left_63 : decode cX9_left 63 = .ok (.istore 8, 2) := by decide +kernel
theorem dX9_left_65 : decode cX9_left 65 = .ok (.iload 8, 2) := by decide +kernel
theorem dX9_left_67 : decode cX9_left 67 = .ok (.sipush 2197, 3) := by decide +kernel
theorem dX9_left_70 : decode cX9_left 70 = .ok (.if_icmp .ge 64, 3) := by decide +kernel
theorem dX9_left_73 : decode cX9_left 73 = .ok (.aload_n 0, 1) := by decide +kernel
theorem dX9_left_74 : decode cX9_left 74 = .ok (.getfield 45, 3) := by decide +kernel
theorem dX9_left_77 : decode cX9_left 77 = .ok (.iload_n 2, 1) := by decide +kernel
theorem dX9_left_78 : decode cX9_left 78 = .ok (.iload 8, 2) := by decide +kernel
theorem dX9_left_80 : decode cX9_left 80 = .ok (.invokestatic 186, 3) := by decide +kernel
theorem dX9_left_83 : decode cX9_left 83 = .ok (.laload, 1) := by decide +kernel
theorem dX9_left_84 : decode cX9_left 84 = .ok (.lconst 0, 1) := by decide +kernel
theorem dX9_left_85 : decode cX9_left 85 = .ok (.lcmp, 1) := by decide +kernel
theorem dX9_left_86 : decode cX9_left 86 = .ok (.ifCond .le 42, 3) := by decide +kernel
theorem dX9_left_89 : decode cX9_left 89 = .ok (.aload_n 0, 1) := by decide +kernel
theorem dX9_left_90 : decode cX9_left 90 = .ok (.iload_n 1, 1) := by decide +kernel
theorem dX9_left_91 : decode cX9_left 91 = .ok (.iload 8, 2) := by decide +kernel
theorem dX9_left_93 : decode cX9_left 93 = .ok (.iload_n 2, 1) := by decide +kernel
theorem dX9_left_94 : decode cX9_left 94 = .ok (.invokevirtual 189, 3) := by decide +kernel
theorem dX9_left_97 : decode cX9_left 97 = .ok (.lload 6, 2) := by decide +kernel
theorem dX9_left_99 : decode cX9_left 99 = .ok (.aload_n 0, 1) := by decide +kernel
theorem dX9_left_100 : decode cX9_left 100 = .ok (.getfield 51, 3) := by decide +kernel
theorem dX9_left_103 : decode cX9_left 103 = .ok (.iload_n 3, 1) := by decide +kernel
theorem dX9_left_104 : decode cX9_left 104 = .ok (.iaload, 1) := by decide +kernel
theorem dX9_left_105 : decode cX9_left 105 = .ok (.iload 4, 2) := by decide +kernel
theorem dX9_left_107 : decode cX9_left 107 = .ok (.if_icmp .ne 17, 3) := by decide +kernel
theorem dX9_left_110 : decode cX9_left 110 = .ok (.aload_n 0, 1) := by decide +kernel
theorem dX9_left_111 : decode cX9_left 111 = .ok (.getfield 45, 3) := by decide +kernel
theorem dX9_left_114 : decode cX9_left 114 = .ok (.iload_n 2, 1) := by decide +kernel
theorem dX9_left_115 : decode cX9_left 115 = .ok (.iload 8, 2) := by decide +kernel
theorem dX9_left_117 : decode cX9_left 117 = .ok (.invokestatic 186, 3) := by decide +kernel
theorem dX9_left_120 : decode cX9_left 120 = .ok (.laload, 1) := by decide +kernel
theorem dX9_left_121 : decode cX9_left 121 = .ok (.goto 4, 3) := by decide +kernel
theorem dX9_left_124 : decode cX9_left 124 = .ok (.lconst 0, 1) := by decide +kernel
theorem dX9_left_125 : decode cX9_left 125 = .ok (.ladd, 1) := by decide +kernel
theorem dX9_left_126 : decode cX9_left 126 = .ok (.lstore 6, 2) := by decide +kernel
theorem dX9_left_128 : decode cX9_left 128 = .ok (.iinc 8 1, 3) := by decide +kernel
theorem dX9_left_131 : decode cX9_left 131 = .ok (.goto (-66), 3) := by decide +kernel
theorem dX9_left_134 : decode cX9_left 134 = .ok (.aload_n 0, 1) := by decide +kernel
theorem dX9_left_135 : decode cX9_left 135 = .ok (.lload 6, 2) := by decide +kernel
theorem dX9_left_137 : decode cX9_left 137 = .ok (.aload_n 0, 1) := by decide +kernel
theorem dX9_left_138 : decode cX9_left 138 = .ok (.getfield 178, 3) := by decide +kernel
theorem dX9_left_141 : decode cX9_left 141 = .ok (.invokevirtual 174, 3) := by decide +kernel
theorem dX9_left_144 : decode cX9_left 144 = .ok (.ireturn, 1) := by decide +kernel
theorem dX9_stuck_0 : decode cX9_stuck 0 = .ok (.aload_n 0, 1) := by decide +kernel
theorem dX9_stuck_1 : decode cX9_stuck 1 = .ok (.iload_n 1, 1) := by decide +kernel
theorem dX9_stuck_2 : decode cX9_stuck 2 = .ok (.iload_n 2, 1) := by decide +kernel
theorem dX9_stuck_3 : decode cX9_stuck 3 = .ok (.invokevirtual 200, 3) := by decide +kernel
theorem dX9_stuck_6 : decode cX9_stuck 6 = .ok (.ifCond .ne 5, 3) := by decide +kernel
theorem dX9_stuck_9 : decode cX9_stuck 9 = .ok (.iconst (-1), 1) := by decide +kernel
theorem dX9_stuck_10 : decode cX9_stuck 10 = .ok (.ireturn, 1) := by decide +kernel
theorem dX9_stuck_11 : decode cX9_stuck 11 = .ok (.aload_n 0, 1) := by decide +kernel
theorem dX9_stuck_12 : decode cX9_stuck 12 = .ok (.iload_n 1, 1) := by decide +kernel
theorem dX9_stuck_13 : decode cX9_stuck 13 = .ok (.iload_n 2, 1) := by decide +kernel
theorem dX9_stuck_14 : decode cX9_stuck 14 = .ok (.invokevirtual 203, 3) := by decide +kernel
theorem dX9_stuck_17 : decode cX9_stuck 17 = .ok (.istore_n 3, 1) := by decide +kernel
theorem dX9_stuck_18 : decode cX9_stuck 18 = .ok (.iload_n 3, 1) := by decide +kernel
theorem dX9_stuck_19 : decode cX9_stuck 19 = .ok (.ifCond .ge 5, 3) := by decide +kernel
theorem dX9_stuck_22 : decode cX9_stuck 22 = .ok (.iload_n 3, 1) := by decide +kernel
theorem dX9_stuck_23 : decode cX9_stuck 23 = .ok (.ireturn, 1) := by decide +kernel
theorem dX9_stuck_24 : decode cX9_stuck 24 = .ok (.aload_n 0, 1) := by decide +kernel
theorem dX9_stuck_25 : decode cX9_stuck 25 = .ok (.iload_n 1, 1) := by decide +kernel
theorem dX9_stuck_26 : decode cX9_stuck 26 = .ok (.iload_n 2, 1) := by decide +kernel
theorem dX9_stuck_27 : decode cX9_stuck 27 = .ok (.iconst 0, 1) := by decide +kernel
theorem dX9_stuck_28 : decode cX9_stuck 28 = .ok (.iconst 0, 1) := by decide +kernel
theorem dX9_stuck_29 : decode cX9_stuck 29 = .ok (.iconst 0, 1) := by decide +kernel
theorem dX9_stuck_30 : decode cX9_stuck 30 = .ok (.iconst 0, 1) := by decide +kernel
theorem dX9_stuck_31 : decode cX9_stuck 31 = .ok (.invokevirtual 206, 3) := by decide +kernel
theorem dX9_stuck_34 : decode cX9_stuck 34 = .ok (.aload_n 0, 1) := by decide +kernel
theorem dX9_stuck_35 : decode cX9_stuck 35 = .ok (.aload_n 0, 1) := by decide +kernel
theorem dX9_stuck_36 : decode cX9_stuck 36 = .ok (.getfield 183, 3) := by decide +kernel
theorem dX9_stuck_39 : decode cX9_stuck 39 = .ok (.aload_n 0, 1) := by decide +kernel
theorem dX9_stuck_40 : decode cX9_stuck 40 = .ok (.getfield 178, 3) := by decide +kernel
theorem dX9_stuck_43 : decode cX9_stuck 43 = .ok (.invokevirtual 174, 3) := by decide +kernel
theorem dX9_stuck_46 : decode cX9_stuck 46 = .ok (.ireturn, 1) := by decide +kernel
theorem dX9_mean_0 : decode cX9_mean 0 = .ok (.aload_n 0, 1) := by decide +kernel
theorem dX9_mean_1 : decode cX9_mean 1 = .ok (.iload_n 1, 1) := by decide +kernel
theorem dX9_mean_2 : decode cX9_mean 2 = .ok (.iload_n 2, 1) := by decide +kernel
theorem dX9_mean_3 : decode cX9_mean 3 = .ok (.invokevirtual 200, 3) := by decide +kernel
theorem dX9_mean_6 : decode cX9_mean 6 = .ok (.ifCond .eq 25, 3) := by decide +kernel
theorem dX9_mean_9 : decode cX9_mean 9 = .ok (.aload_n 0, 1) := by decide +kernel
theorem dX9_mean_10 : decode cX9_mean 10 = .ok (.iload_n 1, 1) := by decide +kernel
theorem dX9_mean_11 : decode cX9_mean 11 = .ok (.iload_n 3, 1) := by decide +kernel
theorem dX9_mean_12 : decode cX9_mean 12 = .ok (.invokevirtual 92, 3) := by decide +kernel
theorem dX9_mean_15 : decode cX9_mean 15 = .ok (.ifCond .eq 16, 3) := by decide +kernel
theorem dX9_mean_18 : decode cX9_mean 18 = .ok (.iload 4, 2) := by decide +kernel
theorem dX9_mean_20 : decode cX9_mean 20 = .ok (.i2l, 1) := by decide +kernel
theorem dX9_mean_21 : decode cX9_mean 21 = .ok (.lconst 1, 1) := by decide +kernel
theorem dX9_mean_22 : decode cX9_mean 22 = .ok (.ldc2_w 212, 3) := by decide +kernel
theorem dX9_mean_25 : decode cX9_mean 25 = .ok (.invokestatic 62, 3) := by decide +kernel
theorem dX9_mean_28 : decode cX9_mean 28 = .ok (.ifCond .ne 5, 3) := by decide +kernel
theorem dX9_mean_31 : decode cX9_mean 31 = .ok (.iconst (-1), 1) := by decide +kernel
theorem dX9_mean_32 : decode cX9_mean 32 = .ok (.ireturn, 1) := by decide +kernel
theorem dX9_mean_33 : decode cX9_mean 33 = .ok (.aload_n 0, 1) := by decide +kernel
theorem dX9_mean_34 : decode cX9_mean 34 = .ok (.iload_n 1, 1) := by decide +kernel
theorem dX9_mean_35 : decode cX9_mean 35 = .ok (.iload_n 2, 1) := by decide +kernel
theorem dX9_mean_36 : decode cX9_mean 36 = .ok (.invokevirtual 203, 3) := by decide +kernel
theorem dX9_mean_39 : decode cX9_mean 39 = .ok (.istore 5, 2) := by decide +kernel
theorem dX9_mean_41 : decode cX9_mean 41 = .ok (.iload 5, 2) := by decide +kernel
theorem dX9_mean_43 : decode cX9_mean 43 = .ok (.ifCond .ge 6, 3) := by decide +kernel
theorem dX9_mean_46 : decode cX9_mean 46 = .ok (.iload 5, 2) := by decide +kernel
theorem dX9_mean_48 : decode cX9_mean 48 = .ok (.ireturn, 1) := by decide +kernel
theorem dX9_mean_49 : decode cX9_mean 49 = .ok (.aload_n 0, 1) := by decide +kernel
theorem dX9_mean_50 : decode cX9_mean 50 = .ok (.iload_n 1, 1) := by decide +kernel
theorem dX9_mean_51 : decode cX9_mean 51 = .ok (.iload_n 2, 1) := by decide +kernel
theorem dX9_mean_52 : decode cX9_mean 52 = .ok (.iconst 0, 1) := by decide +kernel
theorem dX9_mean_53 : decode cX9_mean 53 = .ok (.iconst 0, 1) := by decide +kernel
theorem dX9_mean_54 : decode cX9_mean 54 = .ok (.iconst 0, 1) := by decide +kernel
theorem dX9_mean_55 : decode cX9_mean 55 = .ok (.iconst 0, 1) := by decide +kernel
theorem dX9_mean_56 : decode cX9_mean 56 = .ok (.invokevirtual 206, 3) := by decide +kernel
theorem dX9_mean_59 : decode cX9_mean 59 = .ok (.lconst 0, 1) := by decide +kernel
theorem dX9_mean_60 : decode cX9_mean 60 = .ok (.lstore 6, 2) := by decide +kernel
theorem dX9_mean_62 : decode cX9_mean 62 = .ok (.lconst 0, 1) := by decide +kernel
theorem dX9_mean_63 : decode cX9_mean 63 = .ok (.lstore 8, 2) := by decide +kernel
theorem dX9_mean_65 : decode cX9_mean 65 = .ok (.iconst 0, 1) := by decide +kernel
theorem dX9_mean_66 : decode cX9_mean 66 = .ok (.istore 10, 2) := by decide +kernel
theorem dX9_mean_68 : decode cX9_mean 68 = .ok (.iload 10, 2) := by decide +kernel
theorem dX9_mean_70 : decode cX9_mean 70 = .ok (.sipush 2197, 3) := by decide +kernel
theorem dX9_mean_73 : decode cX9_mean 73 = .ok (.if_icmp .ge 140, 3) := by decide +kernel
theorem dX9_mean_76 : decode cX9_mean 76 = .ok (.aload_n 0, 1) := by decide +kernel
theorem dX9_mean_77 : decode cX9_mean 77 = .ok (.getfield 45, 3) := by decide +kernel
theorem dX9_mean_80 : decode cX9_mean 80 = .ok (.iload_n 2, 1) := by decide +kernel
theorem dX9_mean_81 : decode cX9_mean 81 = .ok (.iload 10, 2) := by decide +kernel
theorem dX9_mean_83 : decode cX9_mean 83 = .ok (.invokestatic 186, 3) := by decide +kernel
theorem dX9_mean_86 : decode cX9_mean 86 = .ok (.laload, 1) := by decide +kernel
theorem dX9_mean_87 : decode cX9_mean 87 = .ok (.lconst 0, 1) := by decide +kernel
theorem dX9_mean_88 : decode cX9_mean 88 = .ok (.lcmp, 1) := by decide +kernel
theorem dX9_mean_89 : decode cX9_mean 89 = .ok (.ifCond .le 118, 3) := by decide +kernel
theorem dX9_mean_92 : decode cX9_mean 92 = .ok (.aload_n 0, 1) := by decide +kernel
theorem dX9_mean_93 : decode cX9_mean 93 = .ok (.iload_n 1, 1) := by decide +kernel
theorem dX9_mean_94 : decode cX9_mean 94 = .ok (.iload 10, 2) := by decide +kernel
theorem dX9_mean_96 : decode cX9_mean 96 = .ok (.iload_n 2, 1) := by decide +kernel
theorem dX9_mean_97 : decode cX9_mean 97 = .ok (.invokevirtual 189, 3) := by decide +kernel
theorem dX9_mean_100 : decode cX9_mean 100 = .ok (.lconst 0, 1) := by decide +kernel
theorem dX9_mean_101 : decode cX9_mean 101 = .ok (.lstore 11, 2) := by decide +kernel
theorem dX9_mean_103 : decode cX9_mean 103 = .ok (.aload_n 0, 1) := by decide +kernel
theorem dX9_mean_104 : decode cX9_mean 104 = .ok (.getfield 45, 3) := by decide +kernel
theorem dX9_mean_107 : decode cX9_mean 107 = .ok (.iload_n 2, 1) := by decide +kernel
theorem dX9_mean_108 : decode cX9_mean 108 = .ok (.iload 10, 2) := by decide +kernel
theorem dX9_mean_110 : decode cX9_mean 110 = .ok (.invokestatic 186, 3) := by decide +kernel
theorem dX9_mean_113 : decode cX9_mean 113 = .ok (.laload, 1) := by decide +kernel
theorem dX9_mean_114 : decode cX9_mean 114 = .ok (.lstore 13, 2) := by decide +kernel
theorem dX9_mean_116 : decode cX9_mean 116 = .ok (.iconst 0, 1) := by decide +kernel
theorem dX9_mean_117 : decode cX9_mean 117 = .ok (.istore 15, 2) := by decide +kernel
theorem dX9_mean_119 : decode cX9_mean 119 = .ok (.iload 15, 2) := by decide +kernel
theorem dX9_mean_121 : decode cX9_mean 121 = .ok (.iload 4, 2) := by decide +kernel
theorem dX9_mean_123 : decode cX9_mean 123 = .ok (.if_icmp .ge 54, 3) := by decide +kernel
theorem dX9_mean_126 : decode cX9_mean 126 = .ok (.lload 11, 2) := by decide +kernel
theorem dX9_mean_128 : decode cX9_mean 128 = .ok (.aload_n 0, 1) := by decide +kernel
theorem dX9_mean_129 : decode cX9_mean 129 = .ok (.getfield 51, 3) := by decide +kernel
theorem dX9_mean_132 : decode cX9_mean 132 = .ok (.iload_n 3, 1) := by decide +kernel
theorem dX9_mean_133 : decode cX9_mean 133 = .ok (.iaload, 1) := by decide +kernel
theorem dX9_mean_134 : decode cX9_mean 134 = .ok (.i2l, 1) := by decide +kernel
theorem dX9_mean_135 : decode cX9_mean 135 = .ok (.lmul, 1) := by decide +kernel
theorem dX9_mean_136 : decode cX9_mean 136 = .ok (.lload 13, 2) := by decide +kernel
theorem dX9_mean_138 : decode cX9_mean 138 = .ok (.aload_n 0, 1) := by decide +kernel
theorem dX9_mean_139 : decode cX9_mean 139 = .ok (.getfield 51, 3) := by decide +kernel
theorem dX9_mean_142 : decode cX9_mean 142 = .ok (.iload_n 3, 1) := by decide +kernel
theorem dX9_mean_143 : decode cX9_mean 143 = .ok (.iaload, 1) := by decide +kernel
theorem dX9_mean_144 : decode cX9_mean 144 = .ok (.i2l, 1) := by decide +kernel
theorem dX9_mean_145 : decode cX9_mean 145 = .ok (.lmul, 1) := by decide +kernel
theorem dX9_mean_146 : decode cX9_mean 146 = .ok (.aload_n 0, 1) := by decide +kernel
theorem dX9_mean_147 : decode cX9_mean 147 = .ok (.getfield 178, 3) := by decide +kernel
theorem dX9_mean_150 : decode cX9_mean 150 = .ok (.ldiv, 1) := by decide +kernel
theorem dX9_mean_151 : decode cX9_mean 151 = .ok (.ladd, 1) := by decide +kernel
theorem dX9_mean_152 : decode cX9_mean 152 = .ok (.lstore 11, 2) := by decide +kernel
theorem dX9_mean_154 : decode cX9_mean 154 = .ok (.lload 13, 2) := by decide +kernel
theorem dX9_mean_156 : decode cX9_mean 156 = .ok (.aload_n 0, 1) := by decide +kernel
theorem dX9_mean_157 : decode cX9_mean 157 = .ok (.getfield 51, 3) := by decide +kernel
theorem dX9_mean_160 : decode cX9_mean 160 = .ok (.iload_n 3, 1) := by decide +kernel
theorem dX9_mean_161 : decode cX9_mean 161 = .ok (.iaload, 1) := by decide +kernel
theorem dX9_mean_162 : decode cX9_mean 162 = .ok (.i2l, 1) := by decide +kernel
theorem dX9_mean_163 : decode cX9_mean 163 = .ok (.lmul, 1) := by decide +kernel
theorem dX9_mean_164 : decode cX9_mean 164 = .ok (.aload_n 0, 1) := by decide +kernel
theorem dX9_mean_165 : decode cX9_mean 165 = .ok (.getfield 178, 3) := by decide +kernel
theorem dX9_mean_168 : decode cX9_mean 168 = .ok (.lrem, 1) := by decide +kernel
theorem dX9_mean_169 : decode cX9_mean 169 = .ok (.lstore 13, 2) := by decide +kernel
theorem dX9_mean_171 : decode cX9_mean 171 = .ok (.iinc 15 1, 3) := by decide +kernel
theorem dX9_mean_174 : decode cX9_mean 174 = .ok (.goto (-55), 3) := by decide +kernel
theorem dX9_mean_177 : decode cX9_mean 177 = .ok (.lload 6, 2) := by decide +kernel
theorem dX9_mean_179 : decode cX9_mean 179 = .ok (.lload 11, 2) := by decide +kernel
theorem dX9_mean_181 : decode cX9_mean 181 = .ok (.lload 8, 2) := by decide +kernel
theorem dX9_mean_183 : decode cX9_mean 183 = .ok (.lload 13, 2) := by decide +kernel
theorem dX9_mean_185 : decode cX9_mean 185 = .ok (.ladd, 1) := by decide +kernel
theorem dX9_mean_186 : decode cX9_mean 186 = .ok (.aload_n 0, 1) := by decide +kernel
theorem dX9_mean_187 : decode cX9_mean 187 = .ok (.getfield 178, 3) := by decide +kernel
theorem dX9_mean_190 : decode cX9_mean 190 = .ok (.ldiv, 1) := by decide +kernel
theorem dX9_mean_191 : decode cX9_mean 191 = .ok (.ladd, 1) := by decide +kernel
theorem dX9_mean_192 : decode cX9_mean 192 = .ok (.ladd, 1) := by decide +kernel
theorem dX9_mean_193 : decode cX9_mean 193 = .ok (.lstore 6, 2) := by decide +kernel
theorem dX9_mean_195 : decode cX9_mean 195 = .ok (.lload 8, 2) := by decide +kernel
theorem dX9_mean_197 : decode cX9_mean 197 = .ok (.lload 13, 2) := by decide +kernel
theorem dX9_mean_199 : decode cX9_mean 199 = .ok (.ladd, 1) := by decide +kernel
theorem dX9_mean_200 : decode cX9_mean 200 = .ok (.aload_n 0, 1) := by decide +kernel
theorem dX9_mean_201 : decode cX9_mean 201 = .ok (.getfield 178, 3) := by decide +kernel
theorem dX9_mean_204 : decode cX9_mean 204 = .ok (.lrem, 1) := by decide +kernel
theorem dX9_mean_205 : decode cX9_mean 205 = .ok (.lstore 8, 2) := by decide +kernel
theorem dX9_mean_207 : decode cX9_mean 207 = .ok (.iinc 10 1, 3) := by decide +kernel
theorem dX9_mean_210 : decode cX9_mean 210 = .ok (.goto (-142), 3) := by decide +kernel
theorem dX9_mean_213 : decode cX9_mean 213 = .ok (.aload_n 0, 1) := by decide +kernel
theorem dX9_mean_214 : decode cX9_mean 214 = .ok (.lload 8, 2) := by decide +kernel
theorem dX9_mean_216 : decode cX9_mean 216 = .ok (.aload_n 0, 1) := by decide +kernel
theorem dX9_mean_217 : decode cX9_mean 217 = .ok (.getfield 178, 3) := by decide +kernel
theorem dX9_mean_220 : decode cX9_mean 220 = .ok (.invokevirtual 174, 3) := by decide +kernel
theorem dX9_mean_223 : decode cX9_mean 223 = .ok (.istore 10, 2) := by decide +kernel
theorem dX9_mean_225 : decode cX9_mean 225 = .ok (.aload_n 0, 1) := by decide +kernel
theorem dX9_mean_226 : decode cX9_mean 226 = .ok (.lload 6, 2) := by decide +kernel
theorem dX9_mean_228 : decode cX9_mean 228 = .ok (.putfield 154, 3) := by decide +kernel
theorem dX9_mean_231 : decode cX9_mean 231 = .ok (.iload 10, 2) := by decide +kernel
theorem dX9_mean_233 : decode cX9_mean 233 = .ok (.ireturn, 1) := by decide +kernel
theorem dX9_told_0 : decode cX9_told 0 = .ok (.aload_n 0, 1) := by decide +kernel
theorem dX9_told_1 : decode cX9_told 1 = .ok (.iload_n 1, 1) := by decide +kernel
theorem dX9_told_2 : decode cX9_told 2 = .ok (.invokevirtual 89, 3) := by decide +kernel
theorem dX9_told_5 : decode cX9_told 5 = .ok (.ifCond .eq 50, 3) := by decide +kernel
theorem dX9_told_8 : decode cX9_told 8 = .ok (.iload_n 2, 1) := by decide +kernel
theorem dX9_told_9 : decode cX9_told 9 = .ok (.i2l, 1) := by decide +kernel
theorem dX9_told_10 : decode cX9_told 10 = .ok (.lconst 1, 1) := by decide +kernel
theorem dX9_told_11 : decode cX9_told 11 = .ok (.ldc2_w 168, 3) := by decide +kernel
theorem dX9_told_14 : decode cX9_told 14 = .ok (.invokestatic 62, 3) := by decide +kernel
theorem dX9_told_17 : decode cX9_told 17 = .ok (.ifCond .eq 38, 3) := by decide +kernel
theorem dX9_told_20 : decode cX9_told 20 = .ok (.aload_n 0, 1) := by decide +kernel
theorem dX9_told_21 : decode cX9_told 21 = .ok (.iload_n 1, 1) := by decide +kernel
theorem dX9_told_22 : decode cX9_told 22 = .ok (.iload_n 3, 1) := by decide +kernel
theorem dX9_told_23 : decode cX9_told 23 = .ok (.invokevirtual 92, 3) := by decide +kernel
theorem dX9_told_26 : decode cX9_told 26 = .ok (.ifCond .eq 29, 3) := by decide +kernel
theorem dX9_told_29 : decode cX9_told 29 = .ok (.iload 4, 2) := by decide +kernel
theorem dX9_told_31 : decode cX9_told 31 = .ok (.i2l, 1) := by decide +kernel
theorem dX9_told_32 : decode cX9_told 32 = .ok (.iload_n 2, 1) := by decide +kernel
theorem dX9_told_33 : decode cX9_told 33 = .ok (.iconst 1, 1) := by decide +kernel
theorem dX9_told_34 : decode cX9_told 34 = .ok (.iadd, 1) := by decide +kernel
theorem dX9_told_35 : decode cX9_told 35 = .ok (.i2l, 1) := by decide +kernel
theorem dX9_told_36 : decode cX9_told 36 = .ok (.ldc2_w 168, 3) := by decide +kernel
theorem dX9_told_39 : decode cX9_told 39 = .ok (.invokestatic 62, 3) := by decide +kernel
theorem dX9_told_42 : decode cX9_told 42 = .ok (.ifCond .eq 13, 3) := by decide +kernel
theorem dX9_told_45 : decode cX9_told 45 = .ok (.aload_n 0, 1) := by decide +kernel
theorem dX9_told_46 : decode cX9_told 46 = .ok (.iload_n 1, 1) := by decide +kernel
theorem dX9_told_47 : decode cX9_told 47 = .ok (.iload 5, 2) := by decide +kernel
theorem dX9_told_49 : decode cX9_told 49 = .ok (.invokevirtual 92, 3) := by decide +kernel
theorem dX9_told_52 : decode cX9_told 52 = .ok (.ifCond .ne 5, 3) := by decide +kernel
theorem dX9_told_55 : decode cX9_told 55 = .ok (.iconst (-1), 1) := by decide +kernel
theorem dX9_told_56 : decode cX9_told 56 = .ok (.ireturn, 1) := by decide +kernel
theorem dX9_told_57 : decode cX9_told 57 = .ok (.aload_n 0, 1) := by decide +kernel
theorem dX9_told_58 : decode cX9_told 58 = .ok (.iload_n 1, 1) := by decide +kernel
theorem dX9_told_59 : decode cX9_told 59 = .ok (.iload 4, 2) := by decide +kernel
theorem dX9_told_61 : decode cX9_told 61 = .ok (.invokevirtual 203, 3) := by decide +kernel
theorem dX9_told_64 : decode cX9_told 64 = .ok (.istore 6, 2) := by decide +kernel
theorem dX9_told_66 : decode cX9_told 66 = .ok (.iload 6, 2) := by decide +kernel
theorem dX9_told_68 : decode cX9_told 68 = .ok (.ifCond .ge 6, 3) := by decide +kernel
theorem dX9_told_71 : decode cX9_told 71 = .ok (.iload 6, 2) := by decide +kernel
theorem dX9_told_73 : decode cX9_told 73 = .ok (.ireturn, 1) := by decide +kernel
theorem dX9_told_74 : decode cX9_told 74 = .ok (.aload_n 0, 1) := by decide +kernel
theorem dX9_told_75 : decode cX9_told 75 = .ok (.iload_n 1, 1) := by decide +kernel
theorem dX9_told_76 : decode cX9_told 76 = .ok (.iload 4, 2) := by decide +kernel
theorem dX9_told_78 : decode cX9_told 78 = .ok (.iconst 0, 1) := by decide +kernel
theorem dX9_told_79 : decode cX9_told 79 = .ok (.iconst 0, 1) := by decide +kernel
theorem dX9_told_80 : decode cX9_told 80 = .ok (.iload 4, 2) := by decide +kernel
theorem dX9_told_82 : decode cX9_told 82 = .ok (.iload 5, 2) := by decide +kernel
theorem dX9_told_84 : decode cX9_told 84 = .ok (.invokevirtual 206, 3) := by decide +kernel
theorem dX9_told_87 : decode cX9_told 87 = .ok (.aload_n 0, 1) := by decide +kernel
theorem dX9_told_88 : decode cX9_told 88 = .ok (.iload 4, 2) := by decide +kernel
theorem dX9_told_90 : decode cX9_told 90 = .ok (.invokevirtual 214, 3) := by decide +kernel
theorem dX9_told_93 : decode cX9_told 93 = .ok (.lstore 7, 2) := by decide +kernel
theorem dX9_told_95 : decode cX9_told 95 = .ok (.lload 7, 2) := by decide +kernel
theorem dX9_told_97 : decode cX9_told 97 = .ok (.lconst 0, 1) := by decide +kernel
theorem dX9_told_98 : decode cX9_told 98 = .ok (.lcmp, 1) := by decide +kernel
theorem dX9_told_99 : decode cX9_told 99 = .ok (.ifCond .ne 6, 3) := by decide +kernel
theorem dX9_told_102 : decode cX9_told 102 = .ok (.bipush (-2), 2) := by decide +kernel
theorem dX9_told_104 : decode cX9_told 104 = .ok (.ireturn, 1) := by decide +kernel
theorem dX9_told_105 : decode cX9_told 105 = .ok (.aload_n 0, 1) := by decide +kernel
theorem dX9_told_106 : decode cX9_told 106 = .ok (.iload_n 1, 1) := by decide +kernel
theorem dX9_told_107 : decode cX9_told 107 = .ok (.iload 4, 2) := by decide +kernel
theorem dX9_told_109 : decode cX9_told 109 = .ok (.iload_n 2, 1) := by decide +kernel
theorem dX9_told_110 : decode cX9_told 110 = .ok (.iload_n 3, 1) := by decide +kernel
theorem dX9_told_111 : decode cX9_told 111 = .ok (.iload 4, 2) := by decide +kernel
theorem dX9_told_113 : decode cX9_told 113 = .ok (.iload 5, 2) := by decide +kernel
theorem dX9_told_115 : decode cX9_told 115 = .ok (.invokevirtual 206, 3) := by decide +kernel
theorem dX9_told_118 : decode cX9_told 118 = .ok (.aload_n 0, 1) := by decide +kernel
theorem dX9_told_119 : decode cX9_told 119 = .ok (.aload_n 0, 1) := by decide +kernel
theorem dX9_told_120 : decode cX9_told 120 = .ok (.iload 4, 2) := by decide +kernel
theorem dX9_told_122 : decode cX9_told 122 = .ok (.invokevirtual 214, 3) := by decide +kernel
theorem dX9_told_125 : decode cX9_told 125 = .ok (.lload 7, 2) := by decide +kernel
theorem dX9_told_127 : decode cX9_told 127 = .ok (.invokevirtual 174, 3) := by decide +kernel
theorem dX9_told_130 : decode cX9_told 130 = .ok (.ireturn, 1) := by decide +kernel
theorem dX9_sum_0 : decode cX9_sum 0 = .ok (.lconst 0, 1) := by decide +kernel
theorem dX9_sum_1 : decode cX9_sum 1 = .ok (.lstore_n 2, 1) := by decide +kernel
theorem dX9_sum_2 : decode cX9_sum 2 = .ok (.iconst 0, 1) := by decide +kernel
theorem dX9_sum_3 : decode cX9_sum 3 = .ok (.istore 4, 2) := by decide +kernel
theorem dX9_sum_5 : decode cX9_sum 5 = .ok (.iload 4, 2) := by decide +kernel
theorem dX9_sum_7 : decode cX9_sum 7 = .ok (.sipush 2197, 3) := by decide +kernel
theorem dX9_sum_10 : decode cX9_sum 10 = .ok (.if_icmp .ge 23, 3) := by decide +kernel
theorem dX9_sum_13 : decode cX9_sum 13 = .ok (.lload_n 2, 1) := by decide +kernel
theorem dX9_sum_14 : decode cX9_sum 14 = .ok (.aload_n 0, 1) := by decide +kernel
theorem dX9_sum_15 : decode cX9_sum 15 = .ok (.getfield 45, 3) := by decide +kernel
theorem dX9_sum_18 : decode cX9_sum 18 = .ok (.iload_n 1, 1) := by decide +kernel
theorem dX9_sum_19 : decode cX9_sum 19 = .ok (.iload 4, 2) := by decide +kernel
theorem dX9_sum_21 : decode cX9_sum 21 = .ok (.invokestatic 186, 3) := by decide +kernel
theorem dX9_sum_24 : decode cX9_sum 24 = .ok (.laload, 1) := by decide +kernel
theorem dX9_sum_25 : decode cX9_sum 25 = .ok (.ladd, 1) := by decide +kernel
theorem dX9_sum_26 : decode cX9_sum 26 = .ok (.lstore_n 2, 1) := by decide +kernel
theorem dX9_sum_27 : decode cX9_sum 27 = .ok (.iinc 4 1, 3) := by decide +kernel
theorem dX9_sum_30 : decode cX9_sum 30 = .ok (.goto (-25), 3) := by decide +kernel
theorem dX9_sum_33 : decode cX9_sum 33 = .ok (.lload_n 2, 1) := by decide +kernel
theorem dX9_sum_34 : decode cX9_sum 34 = .ok (.lreturn, 1) := by decide +kernel
theorem dX9_share_0 : decode cX9_share 0 = .ok (.aload_n 0, 1) := by decide +kernel
theorem dX9_share_1 : decode cX9_share 1 = .ok (.iload_n 1, 1) := by decide +kernel
theorem dX9_share_2 : decode cX9_share 2 = .ok (.invokevirtual 89, 3) := by decide +kernel
theorem dX9_share_5 : decode cX9_share 5 = .ok (.ifCond .eq 24, 3) := by decide +kernel
theorem dX9_share_8 : decode cX9_share 8 = .ok (.aload_n 0, 1) := by decide +kernel
theorem dX9_share_9 : decode cX9_share 9 = .ok (.iload_n 1, 1) := by decide +kernel
theorem dX9_share_10 : decode cX9_share 10 = .ok (.iload_n 2, 1) := by decide +kernel
theorem dX9_share_11 : decode cX9_share 11 = .ok (.invokevirtual 92, 3) := by decide +kernel
theorem dX9_share_14 : decode cX9_share 14 = .ok (.ifCond .eq 15, 3) := by decide +kernel
theorem dX9_share_17 : decode cX9_share 17 = .ok (.iload_n 3, 1) := by decide +kernel
theorem dX9_share_18 : decode cX9_share 18 = .ok (.i2l, 1) := by decide +kernel
theorem dX9_share_19 : decode cX9_share 19 = .ok (.lconst 1, 1) := by decide +kernel
theorem dX9_share_20 : decode cX9_share 20 = .ok (.ldc2_w 105, 3) := by decide +kernel
theorem dX9_share_23 : decode cX9_share 23 = .ok (.invokestatic 62, 3) := by decide +kernel
theorem dX9_share_26 : decode cX9_share 26 = .ok (.ifCond .ne 5, 3) := by decide +kernel
theorem dX9_share_29 : decode cX9_share 29 = .ok (.iconst (-1), 1) := by decide +kernel
theorem dX9_share_30 : decode cX9_share 30 = .ok (.ireturn, 1) := by decide +kernel
theorem dX9_share_31 : decode cX9_share 31 = .ok (.aload_n 0, 1) := by decide +kernel
theorem dX9_share_32 : decode cX9_share 32 = .ok (.iload_n 1, 1) := by decide +kernel
theorem dX9_share_33 : decode cX9_share 33 = .ok (.iconst 0, 1) := by decide +kernel
theorem dX9_share_34 : decode cX9_share 34 = .ok (.invokevirtual 107, 3) := by decide +kernel
theorem dX9_share_37 : decode cX9_share 37 = .ok (.istore 4, 2) := by decide +kernel
theorem dX9_share_39 : decode cX9_share 39 = .ok (.aload_n 0, 1) := by decide +kernel
theorem dX9_share_40 : decode cX9_share 40 = .ok (.iload_n 1, 1) := by decide +kernel
theorem dX9_share_41 : decode cX9_share 41 = .ok (.invokevirtual 117, 3) := by decide +kernel
theorem dX9_share_44 : decode cX9_share 44 = .ok (.ifCond .eq 16, 3) := by decide +kernel
theorem dX9_share_47 : decode cX9_share 47 = .ok (.iload 4, 2) := by decide +kernel
theorem dX9_share_49 : decode cX9_share 49 = .ok (.ifCond .eq 11, 3) := by decide +kernel
theorem dX9_share_52 : decode cX9_share 52 = .ok (.aload_n 0, 1) := by decide +kernel
theorem dX9_share_53 : decode cX9_share 53 = .ok (.iload_n 1, 1) := by decide +kernel
theorem dX9_share_54 : decode cX9_share 54 = .ok (.invokevirtual 113, 3) := by decide +kernel
theorem dX9_share_57 : decode cX9_share 57 = .ok (.ifCond .ne 6, 3) := by decide +kernel
theorem dX9_share_60 : decode cX9_share 60 = .ok (.bipush (-2), 2) := by decide +kernel
theorem dX9_share_62 : decode cX9_share 62 = .ok (.ireturn, 1) := by decide +kernel
theorem dX9_share_63 : decode cX9_share 63 = .ok (.lconst 1, 1) := by decide +kernel
theorem dX9_share_64 : decode cX9_share 64 = .ok (.lstore 5, 2) := by decide +kernel
theorem dX9_share_66 : decode cX9_share 66 = .ok (.lconst 1, 1) := by decide +kernel
theorem dX9_share_67 : decode cX9_share 67 = .ok (.lstore 7, 2) := by decide +kernel
theorem dX9_share_69 : decode cX9_share 69 = .ok (.iconst 0, 1) := by decide +kernel
theorem dX9_share_70 : decode cX9_share 70 = .ok (.istore 9, 2) := by decide +kernel
theorem dX9_share_72 : decode cX9_share 72 = .ok (.iload 9, 2) := by decide +kernel
theorem dX9_share_74 : decode cX9_share 74 = .ok (.iload_n 3, 1) := by decide +kernel
theorem dX9_share_75 : decode cX9_share 75 = .ok (.if_icmp .ge 49, 3) := by decide +kernel
theorem dX9_share_78 : decode cX9_share 78 = .ok (.lload 5, 2) := by decide +kernel
theorem dX9_share_80 : decode cX9_share 80 = .ok (.aload_n 0, 1) := by decide +kernel
theorem dX9_share_81 : decode cX9_share 81 = .ok (.getfield 26, 3) := by decide +kernel
theorem dX9_share_84 : decode cX9_share 84 = .ok (.bipush 25, 2) := by decide +kernel
theorem dX9_share_86 : decode cX9_share 86 = .ok (.iload_n 1, 1) := by decide +kernel
theorem dX9_share_87 : decode cX9_share 87 = .ok (.imul, 1) := by decide +kernel
theorem dX9_share_88 : decode cX9_share 88 = .ok (.iload_n 2, 1) := by decide +kernel
theorem dX9_share_89 : decode cX9_share 89 = .ok (.iadd, 1) := by decide +kernel
theorem dX9_share_90 : decode cX9_share 90 = .ok (.iaload, 1) := by decide +kernel
theorem dX9_share_91 : decode cX9_share 91 = .ok (.iload 9, 2) := by decide +kernel
theorem dX9_share_93 : decode cX9_share 93 = .ok (.iload 4, 2) := by decide +kernel
theorem dX9_share_95 : decode cX9_share 95 = .ok (.imul, 1) := by decide +kernel
theorem dX9_share_96 : decode cX9_share 96 = .ok (.iadd, 1) := by decide +kernel
theorem dX9_share_97 : decode cX9_share 97 = .ok (.i2l, 1) := by decide +kernel
theorem dX9_share_98 : decode cX9_share 98 = .ok (.lmul, 1) := by decide +kernel
theorem dX9_share_99 : decode cX9_share 99 = .ok (.lstore 5, 2) := by decide +kernel
theorem dX9_share_101 : decode cX9_share 101 = .ok (.lload 7, 2) := by decide +kernel
theorem dX9_share_103 : decode cX9_share 103 = .ok (.aload_n 0, 1) := by decide +kernel
theorem dX9_share_104 : decode cX9_share 104 = .ok (.iload_n 1, 1) := by decide +kernel
theorem dX9_share_105 : decode cX9_share 105 = .ok (.invokevirtual 113, 3) := by decide +kernel
theorem dX9_share_108 : decode cX9_share 108 = .ok (.iload 9, 2) := by decide +kernel
theorem dX9_share_110 : decode cX9_share 110 = .ok (.iload 4, 2) := by decide +kernel
theorem dX9_share_112 : decode cX9_share 112 = .ok (.imul, 1) := by decide +kernel
theorem dX9_share_113 : decode cX9_share 113 = .ok (.iadd, 1) := by decide +kernel
theorem dX9_share_114 : decode cX9_share 114 = .ok (.i2l, 1) := by decide +kernel
theorem dX9_share_115 : decode cX9_share 115 = .ok (.lmul, 1) := by decide +kernel
theorem dX9_share_116 : decode cX9_share 116 = .ok (.lstore 7, 2) := by decide +kernel
theorem dX9_share_118 : decode cX9_share 118 = .ok (.iinc 9 1, 3) := by decide +kernel
theorem dX9_share_121 : decode cX9_share 121 = .ok (.goto (-49), 3) := by decide +kernel
theorem dX9_share_124 : decode cX9_share 124 = .ok (.aload_n 0, 1) := by decide +kernel
theorem dX9_share_125 : decode cX9_share 125 = .ok (.lload 5, 2) := by decide +kernel
theorem dX9_share_127 : decode cX9_share 127 = .ok (.lload 7, 2) := by decide +kernel
theorem dX9_share_129 : decode cX9_share 129 = .ok (.invokevirtual 174, 3) := by decide +kernel
theorem dX9_share_132 : decode cX9_share 132 = .ok (.ireturn, 1) := by decide +kernel
theorem dX9_free_0 : decode cX9_free 0 = .ok (.aload_n 0, 1) := by decide +kernel
theorem dX9_free_1 : decode cX9_free 1 = .ok (.iload_n 1, 1) := by decide +kernel
theorem dX9_free_2 : decode cX9_free 2 = .ok (.invokevirtual 89, 3) := by decide +kernel
theorem dX9_free_5 : decode cX9_free 5 = .ok (.ifCond .eq 15, 3) := by decide +kernel
theorem dX9_free_8 : decode cX9_free 8 = .ok (.iload_n 2, 1) := by decide +kernel
theorem dX9_free_9 : decode cX9_free 9 = .ok (.i2l, 1) := by decide +kernel
theorem dX9_free_10 : decode cX9_free 10 = .ok (.lconst 1, 1) := by decide +kernel
theorem dX9_free_11 : decode cX9_free 11 = .ok (.ldc2_w 60, 3) := by decide +kernel
theorem dX9_free_14 : decode cX9_free 14 = .ok (.invokestatic 62, 3) := by decide +kernel
theorem dX9_free_17 : decode cX9_free 17 = .ok (.ifCond .ne 5, 3) := by decide +kernel
theorem dX9_free_20 : decode cX9_free 20 = .ok (.iconst (-1), 1) := by decide +kernel
theorem dX9_free_21 : decode cX9_free 21 = .ok (.ireturn, 1) := by decide +kernel
theorem dX9_free_22 : decode cX9_free 22 = .ok (.aload_n 0, 1) := by decide +kernel
theorem dX9_free_23 : decode cX9_free 23 = .ok (.iload_n 1, 1) := by decide +kernel
theorem dX9_free_24 : decode cX9_free 24 = .ok (.invokevirtual 113, 3) := by decide +kernel
theorem dX9_free_27 : decode cX9_free 27 = .ok (.ifCond .ne 6, 3) := by decide +kernel
theorem dX9_free_30 : decode cX9_free 30 = .ok (.bipush (-2), 2) := by decide +kernel
theorem dX9_free_32 : decode cX9_free 32 = .ok (.ireturn, 1) := by decide +kernel
theorem dX9_free_33 : decode cX9_free 33 = .ok (.iconst 0, 1) := by decide +kernel
theorem dX9_free_34 : decode cX9_free 34 = .ok (.istore_n 3, 1) := by decide +kernel
theorem dX9_free_35 : decode cX9_free 35 = .ok (.iload_n 3, 1) := by decide +kernel
theorem dX9_free_36 : decode cX9_free 36 = .ok (.sipush 216, 3) := by decide +kernel
theorem dX9_free_39 : decode cX9_free 39 = .ok (.if_icmp .ge 16, 3) := by decide +kernel
theorem dX9_free_42 : decode cX9_free 42 = .ok (.aload_n 0, 1) := by decide +kernel
theorem dX9_free_43 : decode cX9_free 43 = .ok (.getfield 57, 3) := by decide +kernel
theorem dX9_free_46 : decode cX9_free 46 = .ok (.iload_n 3, 1) := by decide +kernel
theorem dX9_free_47 : decode cX9_free 47 = .ok (.lconst 0, 1) := by decide +kernel
theorem dX9_free_48 : decode cX9_free 48 = .ok (.lastore, 1) := by decide +kernel
theorem dX9_free_49 : decode cX9_free 49 = .ok (.iinc 3 1, 3) := by decide +kernel
theorem dX9_free_52 : decode cX9_free 52 = .ok (.goto (-17), 3) := by decide +kernel
theorem dX9_free_55 : decode cX9_free 55 = .ok (.iconst 1, 1) := by decide +kernel
theorem dX9_free_56 : decode cX9_free 56 = .ok (.istore_n 3, 1) := by decide +kernel
theorem dX9_free_57 : decode cX9_free 57 = .ok (.iconst 0, 1) := by decide +kernel
theorem dX9_free_58 : decode cX9_free 58 = .ok (.istore 4, 2) := by decide +kernel
theorem dX9_free_60 : decode cX9_free 60 = .ok (.iload 4, 2) := by decide +kernel
theorem dX9_free_62 : decode cX9_free 62 = .ok (.iconst 1, 1) := by decide +kernel
theorem dX9_free_63 : decode cX9_free 63 = .ok (.iconst 2, 1) := by decide +kernel
theorem dX9_free_64 : decode cX9_free 64 = .ok (.iload_n 2, 1) := by decide +kernel
theorem dX9_free_65 : decode cX9_free 65 = .ok (.imul, 1) := by decide +kernel
theorem dX9_free_66 : decode cX9_free 66 = .ok (.ishl, 1) := by decide +kernel
theorem dX9_free_67 : decode cX9_free 67 = .ok (.if_icmp .ge 190, 3) := by decide +kernel
theorem dX9_free_70 : decode cX9_free 70 = .ok (.iconst 1, 1) := by decide +kernel
theorem dX9_free_71 : decode cX9_free 71 = .ok (.istore 5, 2) := by decide +kernel
theorem dX9_free_73 : decode cX9_free 73 = .ok (.iconst 0, 1) := by decide +kernel
theorem dX9_free_74 : decode cX9_free 74 = .ok (.istore 6, 2) := by decide +kernel
theorem dX9_free_76 : decode cX9_free 76 = .ok (.iconst 0, 1) := by decide +kernel
theorem dX9_free_77 : decode cX9_free 77 = .ok (.istore 7, 2) := by decide +kernel
theorem dX9_free_79 : decode cX9_free 79 = .ok (.iload 7, 2) := by decide +kernel
theorem dX9_free_81 : decode cX9_free 81 = .ok (.iload_n 2, 1) := by decide +kernel
theorem dX9_free_82 : decode cX9_free 82 = .ok (.if_icmp .ge 80, 3) := by decide +kernel
theorem dX9_free_85 : decode cX9_free 85 = .ok (.iload 4, 2) := by decide +kernel
theorem dX9_free_87 : decode cX9_free 87 = .ok (.iconst 2, 1) := by decide +kernel
theorem dX9_free_88 : decode cX9_free 88 = .ok (.iload 7, 2) := by decide +kernel
theorem dX9_free_90 : decode cX9_free 90 = .ok (.imul, 1) := by decide +kernel
theorem dX9_free_91 : decode cX9_free 91 = .ok (.ishr, 1) := by decide +kernel
theorem dX9_free_92 : decode cX9_free 92 = .ok (.iconst 3, 1) := by decide +kernel
theorem dX9_free_93 : decode cX9_free 93 = .ok (.iand, 1) := by decide +kernel
theorem dX9_free_94 : decode cX9_free 94 = .ok (.istore 8, 2) := by decide +kernel
theorem dX9_free_96 : decode cX9_free 96 = .ok (.iload 5, 2) := by decide +kernel
theorem dX9_free_98 : decode cX9_free 98 = .ok (.ifCond .eq 18, 3) := by decide +kernel
theorem dX9_free_101 : decode cX9_free 101 = .ok (.iload 8, 2) := by decide +kernel
theorem dX9_free_103 : decode cX9_free 103 = .ok (.aload_n 0, 1) := by decide +kernel
theorem dX9_free_104 : decode cX9_free 104 = .ok (.getfield 23, 3) := by decide +kernel
theorem dX9_free_107 : decode cX9_free 107 = .ok (.iload_n 1, 1) := by decide +kernel
theorem dX9_free_108 : decode cX9_free 108 = .ok (.iaload, 1) := by decide +kernel
theorem dX9_free_109 : decode cX9_free 109 = .ok (.if_icmp .ge 7, 3) := by decide +kernel
theorem dX9_free_112 : decode cX9_free 112 = .ok (.iconst 1, 1) := by decide +kernel
theorem dX9_free_113 : decode cX9_free 113 = .ok (.goto 4, 3) := by decide +kernel
theorem dX9_free_116 : decode cX9_free 116 = .ok (.iconst 0, 1) := by decide +kernel
theorem dX9_free_117 : decode cX9_free 117 = .ok (.istore 5, 2) := by decide +kernel
theorem dX9_free_119 : decode cX9_free 119 = .ok (.iload 6, 2) := by decide +kernel
theorem dX9_free_121 : decode cX9_free 121 = .ok (.iload 8, 2) := by decide +kernel
theorem dX9_free_123 : decode cX9_free 123 = .ok (.ifCond .ne 7, 3) := by decide +kernel
theorem dX9_free_126 : decode cX9_free 126 = .ok (.iconst 1, 1) := by decide +kernel
theorem dX9_free_127 : decode cX9_free 127 = .ok (.goto 26, 3) := by decide +kernel
theorem dX9_free_130 : decode cX9_free 130 = .ok (.iload 8, 2) := by decide +kernel
theorem dX9_free_132 : decode cX9_free 132 = .ok (.iconst 1, 1) := by decide +kernel
theorem dX9_free_133 : decode cX9_free 133 = .ok (.if_icmp .ne 8, 3) := by decide +kernel
theorem dX9_free_136 : decode cX9_free 136 = .ok (.bipush 6, 2) := by decide +kernel
theorem dX9_free_138 : decode cX9_free 138 = .ok (.goto 15, 3) := by decide +kernel
theorem dX9_free_141 : decode cX9_free 141 = .ok (.iload 8, 2) := by decide +kernel
theorem dX9_free_143 : decode cX9_free 143 = .ok (.iconst 2, 1) := by decide +kernel
theorem dX9_free_144 : decode cX9_free 144 = .ok (.if_icmp .ne 8, 3) := by decide +kernel
theorem dX9_free_147 : decode cX9_free 147 = .ok (.bipush 36, 2) := by decide +kernel
theorem dX9_free_149 : decode cX9_free 149 = .ok (.goto 4, 3) := by decide +kernel
theorem dX9_free_152 : decode cX9_free 152 = .ok (.iconst 0, 1) := by decide +kernel
theorem dX9_free_153 : decode cX9_free 153 = .ok (.iadd, 1) := by decide +kernel
theorem dX9_free_154 : decode cX9_free 154 = .ok (.istore 6, 2) := by decide +kernel
theorem dX9_free_156 : decode cX9_free 156 = .ok (.iinc 7 1, 3) := by decide +kernel
theorem dX9_free_159 : decode cX9_free 159 = .ok (.goto (-80), 3) := by decide +kernel
theorem dX9_free_162 : decode cX9_free 162 = .ok (.iload 5, 2) := by decide +kernel
theorem dX9_free_164 : decode cX9_free 164 = .ok (.ifCond .eq 87, 3) := by decide +kernel
theorem dX9_free_167 : decode cX9_free 167 = .ok (.aload_n 0, 1) := by decide +kernel
theorem dX9_free_168 : decode cX9_free 168 = .ok (.iload_n 1, 1) := by decide +kernel
theorem dX9_free_169 : decode cX9_free 169 = .ok (.iload_n 2, 1) := by decide +kernel
theorem dX9_free_170 : decode cX9_free 170 = .ok (.iload 4, 2) := by decide +kernel
theorem dX9_free_172 : decode cX9_free 172 = .ok (.invokevirtual 170, 3) := by decide +kernel
theorem dX9_free_175 : decode cX9_free 175 = .ok (.istore 7, 2) := by decide +kernel
theorem dX9_free_177 : decode cX9_free 177 = .ok (.aload_n 0, 1) := by decide +kernel
theorem dX9_free_178 : decode cX9_free 178 = .ok (.getfield 57, 3) := by decide +kernel
theorem dX9_free_181 : decode cX9_free 181 = .ok (.iload 6, 2) := by decide +kernel
theorem dX9_free_183 : decode cX9_free 183 = .ok (.laload, 1) := by decide +kernel
theorem dX9_free_184 : decode cX9_free 184 = .ok (.lconst 0, 1) := by decide +kernel
theorem dX9_free_185 : decode cX9_free 185 = .ok (.lcmp, 1) := by decide +kernel
theorem dX9_free_186 : decode cX9_free 186 = .ok (.ifCond .ne 25, 3) := by decide +kernel
theorem dX9_free_189 : decode cX9_free 189 = .ok (.aload_n 0, 1) := by decide +kernel
theorem dX9_free_190 : decode cX9_free 190 = .ok (.getfield 54, 3) := by decide +kernel
theorem dX9_free_193 : decode cX9_free 193 = .ok (.iload 6, 2) := by decide +kernel
theorem dX9_free_195 : decode cX9_free 195 = .ok (.aload_n 0, 1) := by decide +kernel
theorem dX9_free_196 : decode cX9_free 196 = .ok (.getfield 160, 3) := by decide +kernel
theorem dX9_free_199 : decode cX9_free 199 = .ok (.lastore, 1) := by decide +kernel
theorem dX9_free_200 : decode cX9_free 200 = .ok (.aload_n 0, 1) := by decide +kernel
theorem dX9_free_201 : decode cX9_free 201 = .ok (.getfield 57, 3) := by decide +kernel
theorem dX9_free_204 : decode cX9_free 204 = .ok (.iload 6, 2) := by decide +kernel
theorem dX9_free_206 : decode cX9_free 206 = .ok (.aload_n 0, 1) := by decide +kernel
theorem dX9_free_207 : decode cX9_free 207 = .ok (.getfield 163, 3) := by decide +kernel
theorem dX9_free_210 : decode cX9_free 210 = .ok (.lastore, 1) := by decide +kernel
theorem dX9_free_211 : decode cX9_free 211 = .ok (.iload_n 3, 1) := by decide +kernel
theorem dX9_free_212 : decode cX9_free 212 = .ok (.ifCond .eq 37, 3) := by decide +kernel
theorem dX9_free_215 : decode cX9_free 215 = .ok (.aload_n 0, 1) := by decide +kernel
theorem dX9_free_216 : decode cX9_free 216 = .ok (.getfield 54, 3) := by decide +kernel
theorem dX9_free_219 : decode cX9_free 219 = .ok (.iload 6, 2) := by decide +kernel
theorem dX9_free_221 : decode cX9_free 221 = .ok (.laload, 1) := by decide +kernel
theorem dX9_free_222 : decode cX9_free 222 = .ok (.aload_n 0, 1) := by decide +kernel
theorem dX9_free_223 : decode cX9_free 223 = .ok (.getfield 160, 3) := by decide +kernel
theorem dX9_free_226 : decode cX9_free 226 = .ok (.lcmp, 1) := by decide +kernel
theorem dX9_free_227 : decode cX9_free 227 = .ok (.ifCond .ne 22, 3) := by decide +kernel
theorem dX9_free_230 : decode cX9_free 230 = .ok (.aload_n 0, 1) := by decide +kernel
theorem dX9_free_231 : decode cX9_free 231 = .ok (.getfield 57, 3) := by decide +kernel
theorem dX9_free_234 : decode cX9_free 234 = .ok (.iload 6, 2) := by decide +kernel
theorem dX9_free_236 : decode cX9_free 236 = .ok (.laload, 1) := by decide +kernel
theorem dX9_free_237 : decode cX9_free 237 = .ok (.aload_n 0, 1) := by decide +kernel
theorem dX9_free_238 : decode cX9_free 238 = .ok (.getfield 163, 3) := by decide +kernel
theorem dX9_free_241 : decode cX9_free 241 = .ok (.lcmp, 1) := by decide +kernel
theorem dX9_free_242 : decode cX9_free 242 = .ok (.ifCond .ne 7, 3) := by decide +kernel
theorem dX9_free_245 : decode cX9_free 245 = .ok (.iconst 1, 1) := by decide +kernel
theorem dX9_free_246 : decode cX9_free 246 = .ok (.goto 4, 3) := by decide +kernel
theorem dX9_free_249 : decode cX9_free 249 = .ok (.iconst 0, 1) := by decide +kernel
theorem dX9_free_250 : decode cX9_free 250 = .ok (.istore_n 3, 1) := by decide +kernel
theorem dX9_free_251 : decode cX9_free 251 = .ok (.iinc 4 1, 3) := by decide +kernel
theorem dX9_free_254 : decode cX9_free 254 = .ok (.goto (-194), 3) := by decide +kernel
theorem dX9_free_257 : decode cX9_free 257 = .ok (.iload_n 3, 1) := by decide +kernel
theorem dX9_free_258 : decode cX9_free 258 = .ok (.ifCond .eq 7, 3) := by decide +kernel
theorem dX9_free_261 : decode cX9_free 261 = .ok (.iconst 1, 1) := by decide +kernel
theorem dX9_free_262 : decode cX9_free 262 = .ok (.goto 4, 3) := by decide +kernel
theorem dX9_free_265 : decode cX9_free 265 = .ok (.iconst 0, 1) := by decide +kernel
theorem dX9_free_266 : decode cX9_free 266 = .ok (.ireturn, 1) := by decide +kernel
theorem dX9_count_0 : decode cX9_count 0 = .ok (.iload_n 1, 1) := by decide +kernel
theorem dX9_count_1 : decode cX9_count 1 = .ok (.tableswitch 59 0 3 #[31, 36, 41, 50], 31) := by decide +kernel
theorem dX9_count_32 : decode cX9_count 32 = .ok (.aload_n 0, 1) := by decide +kernel
theorem dX9_count_33 : decode cX9_count 33 = .ok (.getfield 82, 3) := by decide +kernel
theorem dX9_count_36 : decode cX9_count 36 = .ok (.ireturn, 1) := by decide +kernel
theorem dX9_count_37 : decode cX9_count 37 = .ok (.aload_n 0, 1) := by decide +kernel
theorem dX9_count_38 : decode cX9_count 38 = .ok (.getfield 86, 3) := by decide +kernel
theorem dX9_count_41 : decode cX9_count 41 = .ok (.ireturn, 1) := by decide +kernel
theorem dX9_count_42 : decode cX9_count 42 = .ok (.aload_n 0, 1) := by decide +kernel
theorem dX9_count_43 : decode cX9_count 43 = .ok (.getfield 26, 3) := by decide +kernel
theorem dX9_count_46 : decode cX9_count 46 = .ok (.sipush 201, 3) := by decide +kernel
theorem dX9_count_49 : decode cX9_count 49 = .ok (.iaload, 1) := by decide +kernel
theorem dX9_count_50 : decode cX9_count 50 = .ok (.ireturn, 1) := by decide +kernel
theorem dX9_count_51 : decode cX9_count 51 = .ok (.aload_n 0, 1) := by decide +kernel
theorem dX9_count_52 : decode cX9_count 52 = .ok (.getfield 26, 3) := by decide +kernel
theorem dX9_count_55 : decode cX9_count 55 = .ok (.sipush 200, 3) := by decide +kernel
theorem dX9_count_58 : decode cX9_count 58 = .ok (.iaload, 1) := by decide +kernel
theorem dX9_count_59 : decode cX9_count 59 = .ok (.ireturn, 1) := by decide +kernel
theorem dX9_count_60 : decode cX9_count 60 = .ok (.iconst (-1), 1) := by decide +kernel
theorem dX9_count_61 : decode cX9_count 61 = .ok (.ireturn, 1) := by decide +kernel
theorem dJ7_fill_d0a16_0 : decode cJ7_fill_d0a16 0 = .ok (.iconst 0, 1) := by decide +kernel
theorem dJ7_fill_d0a16_1 : decode cJ7_fill_d0a16 1 = .ok (.istore_n 3, 1) := by decide +kernel
theorem dJ7_fill_d0a16_2 : decode cJ7_fill_d0a16 2 = .ok (.aload_n 0, 1) := by decide +kernel
theorem dJ7_fill_d0a16_3 : decode cJ7_fill_d0a16 3 = .ok (.arraylength, 1) := by decide +kernel
theorem dJ7_fill_d0a16_4 : decode cJ7_fill_d0a16 4 = .ok (.istore 4, 2) := by decide +kernel
theorem dJ7_fill_d0a16_6 : decode cJ7_fill_d0a16 6 = .ok (.iload_n 3, 1) := by decide +kernel
theorem dJ7_fill_d0a16_7 : decode cJ7_fill_d0a16 7 = .ok (.iload 4, 2) := by decide +kernel
theorem dJ7_fill_d0a16_9 : decode cJ7_fill_d0a16 9 = .ok (.if_icmp .ge 13, 3) := by decide +kernel
theorem dJ7_fill_d0a16_12 : decode cJ7_fill_d0a16 12 = .ok (.aload_n 0, 1) := by decide +kernel
theorem dJ7_fill_d0a16_13 : decode cJ7_fill_d0a16 13 = .ok (.iload_n 3, 1) := by decide +kernel
theorem dJ7_fill_d0a16_14 : decode cJ7_fill_d0a16 14 = .ok (.lload_n 1, 1) := by decide +kernel
theorem dJ7_fill_d0a16_15 : decode cJ7_fill_d0a16 15 = .ok (.lastore, 1) := by decide +kernel
theorem dJ7_fill_d0a16_16 : decode cJ7_fill_d0a16 16 = .ok (.iinc 3 1, 3) := by decide +kernel
theorem dJ7_fill_d0a16_19 : decode cJ7_fill_d0a16 19 = .ok (.goto (-13), 3) := by decide +kernel
theorem dJ7_fill_d0a16_22 : decode cJ7_fill_d0a16 22 = .ok (.return_, 1) := by decide +kernel
theorem dJ7_fill_53178_0 : decode cJ7_fill_53178 0 = .ok (.iconst 0, 1) := by decide +kernel
theorem dJ7_fill_53178_1 : decode cJ7_fill_53178 1 = .ok (.istore_n 2, 1) := by decide +kernel
theorem dJ7_fill_53178_2 : decode cJ7_fill_53178 2 = .ok (.aload_n 0, 1) := by decide +kernel
theorem dJ7_fill_53178_3 : decode cJ7_fill_53178 3 = .ok (.arraylength, 1) := by decide +kernel
theorem dJ7_fill_53178_4 : decode cJ7_fill_53178 4 = .ok (.istore_n 3, 1) := by decide +kernel
theorem dJ7_fill_53178_5 : decode cJ7_fill_53178 5 = .ok (.iload_n 2, 1) := by decide +kernel
theorem dJ7_fill_53178_6 : decode cJ7_fill_53178 6 = .ok (.iload_n 3, 1) := by decide +kernel
theorem dJ7_fill_53178_7 : decode cJ7_fill_53178 7 = .ok (.if_icmp .ge 13, 3) := by decide +kernel
theorem dJ7_fill_53178_10 : decode cJ7_fill_53178 10 = .ok (.aload_n 0, 1) := by decide +kernel
theorem dJ7_fill_53178_11 : decode cJ7_fill_53178 11 = .ok (.iload_n 2, 1) := by decide +kernel
theorem dJ7_fill_53178_12 : decode cJ7_fill_53178 12 = .ok (.iload_n 1, 1) := by decide +kernel
theorem dJ7_fill_53178_13 : decode cJ7_fill_53178 13 = .ok (.iastore, 1) := by decide +kernel
theorem dJ7_fill_53178_14 : decode cJ7_fill_53178 14 = .ok (.iinc 2 1, 3) := by decide +kernel
theorem dJ7_fill_53178_17 : decode cJ7_fill_53178 17 = .ok (.goto (-12), 3) := by decide +kernel
theorem dJ7_fill_53178_20 : decode cJ7_fill_53178 20 = .ok (.return_, 1) := by decide +kernel
theorem dL_law_0 : decode cL_law 0 = .ok (.new 7, 3) := by decide +kernel
theorem dL_law_3 : decode cL_law 3 = .ok (.dup, 1) := by decide +kernel
theorem dL_law_4 : decode cL_law 4 = .ok (.invokespecial 9, 3) := by decide +kernel
theorem dL_law_7 : decode cL_law 7 = .ok (.astore_n 1, 1) := by decide +kernel
theorem dL_law_8 : decode cL_law 8 = .ok (.new 10, 3) := by decide +kernel
theorem dL_law_11 : decode cL_law 11 = .ok (.dup, 1) := by decide +kernel
theorem dL_law_12 : decode cL_law 12 = .ok (.invokespecial 12, 3) := by decide +kernel
theorem dL_law_15 : decode cL_law 15 = .ok (.astore_n 2, 1) := by decide +kernel
theorem dL_law_16 : decode cL_law 16 = .ok (.iconst 0, 1) := by decide +kernel
theorem dL_law_17 : decode cL_law 17 = .ok (.istore_n 3, 1) := by decide +kernel
theorem dL_law_18 : decode cL_law 18 = .ok (.iload_n 3, 1) := by decide +kernel
theorem dL_law_19 : decode cL_law 19 = .ok (.aload_n 0, 1) := by decide +kernel
theorem dL_law_20 : decode cL_law 20 = .ok (.arraylength, 1) := by decide +kernel
theorem dL_law_21 : decode cL_law 21 = .ok (.bipush 6, 2) := by decide +kernel
theorem dL_law_23 : decode cL_law 23 = .ok (.isub, 1) := by decide +kernel
theorem dL_law_24 : decode cL_law 24 = .ok (.if_icmp .gt 1233, 3) := by decide +kernel
theorem dL_law_27 : decode cL_law 27 = .ok (.aload_n 0, 1) := by decide +kernel
theorem dL_law_28 : decode cL_law 28 = .ok (.iload_n 3, 1) := by decide +kernel
theorem dL_law_29 : decode cL_law 29 = .ok (.iaload, 1) := by decide +kernel
theorem dL_law_30 : decode cL_law 30 = .ok (.bipush 31, 2) := by decide +kernel
theorem dL_law_32 : decode cL_law 32 = .ok (.iand, 1) := by decide +kernel
theorem dL_law_33 : decode cL_law 33 = .ok (.tableswitch 1218 0 25 #[119, 162, 235, 298, 371, 434, 457, 500, 553, 596, 629, 672, 705, 728, 751, 784, 797, 840, 893, 946, 979, 1032, 1095, 1138, 1171, 1195], 119) := by decide +kernel
theorem dL_law_152 : decode cL_law 152 = .ok (.aload_n 1, 1) := by decide +kernel
theorem dL_law_153 : decode cL_law 153 = .ok (.aload_n 0, 1) := by decide +kernel
theorem dL_law_154 : decode cL_law 154 = .ok (.iload_n 3, 1) := by decide +kernel
theorem dL_law_155 : decode cL_law 155 = .ok (.iconst 1, 1) := by decide +kernel
theorem dL_law_156 : decode cL_law 156 = .ok (.iadd, 1) := by decide +kernel
theorem dL_law_157 : decode cL_law 157 = .ok (.iaload, 1) := by decide +kernel
theorem dL_law_158 : decode cL_law 158 = .ok (.aload_n 0, 1) := by decide +kernel
theorem dL_law_159 : decode cL_law 159 = .ok (.iload_n 3, 1) := by decide +kernel
theorem dL_law_160 : decode cL_law 160 = .ok (.iconst 2, 1) := by decide +kernel
theorem dL_law_161 : decode cL_law 161 = .ok (.iadd, 1) := by decide +kernel
theorem dL_law_162 : decode cL_law 162 = .ok (.iaload, 1) := by decide +kernel
theorem dL_law_163 : decode cL_law 163 = .ok (.aload_n 0, 1) := by decide +kernel
theorem dL_law_164 : decode cL_law 164 = .ok (.iload_n 3, 1) := by decide +kernel
theorem dL_law_165 : decode cL_law 165 = .ok (.iconst 3, 1) := by decide +kernel
theorem dL_law_166 : decode cL_law 166 = .ok (.iadd, 1) := by decide +kernel
theorem dL_law_167 : decode cL_law 167 = .ok (.iaload, 1) := by decide +kernel
theorem dL_law_168 : decode cL_law 168 = .ok (.invokevirtual 13, 3) := by decide +kernel
theorem dL_law_171 : decode cL_law 171 = .ok (.aload_n 2, 1) := by decide +kernel
theorem dL_law_172 : decode cL_law 172 = .ok (.aload_n 0, 1) := by decide +kernel
theorem dL_law_173 : decode cL_law 173 = .ok (.iload_n 3, 1) := by decide +kernel
theorem dL_law_174 : decode cL_law 174 = .ok (.iconst 1, 1) := by decide +kernel
theorem dL_law_175 : decode cL_law 175 = .ok (.iadd, 1) := by decide +kernel
theorem dL_law_176 : decode cL_law 176 = .ok (.iaload, 1) := by decide +kernel
theorem dL_law_177 : decode cL_law 177 = .ok (.aload_n 0, 1) := by decide +kernel
theorem dL_law_178 : decode cL_law 178 = .ok (.iload_n 3, 1) := by decide +kernel
theorem dL_law_179 : decode cL_law 179 = .ok (.iconst 2, 1) := by decide +kernel
theorem dL_law_180 : decode cL_law 180 = .ok (.iadd, 1) := by decide +kernel
theorem dL_law_181 : decode cL_law 181 = .ok (.iaload, 1) := by decide +kernel
theorem dL_law_182 : decode cL_law 182 = .ok (.aload_n 0, 1) := by decide +kernel
theorem dL_law_183 : decode cL_law 183 = .ok (.iload_n 3, 1) := by decide +kernel
theorem dL_law_184 : decode cL_law 184 = .ok (.iconst 3, 1) := by decide +kernel
theorem dL_law_185 : decode cL_law 185 = .ok (.iadd, 1) := by decide +kernel
theorem dL_law_186 : decode cL_law 186 = .ok (.iaload, 1) := by decide +kernel
theorem dL_law_187 : decode cL_law 187 = .ok (.invokevirtual 17, 3) := by decide +kernel
theorem dL_law_190 : decode cL_law 190 = .ok (.if_icmp .eq 1061, 3) := by decide +kernel
theorem dL_law_193 : decode cL_law 193 = .ok (.iconst 0, 1) := by decide +kernel
theorem dL_law_194 : decode cL_law 194 = .ok (.ireturn, 1) := by decide +kernel
theorem dL_law_195 : decode cL_law 195 = .ok (.aload_n 1, 1) := by decide +kernel
theorem dL_law_196 : decode cL_law 196 = .ok (.aload_n 0, 1) := by decide +kernel
theorem dL_law_197 : decode cL_law 197 = .ok (.iload_n 3, 1) := by decide +kernel
theorem dL_law_198 : decode cL_law 198 = .ok (.iconst 1, 1) := by decide +kernel
theorem dL_law_199 : decode cL_law 199 = .ok (.iadd, 1) := by decide +kernel
theorem dL_law_200 : decode cL_law 200 = .ok (.iaload, 1) := by decide +kernel
theorem dL_law_201 : decode cL_law 201 = .ok (.aload_n 0, 1) := by decide +kernel
theorem dL_law_202 : decode cL_law 202 = .ok (.iload_n 3, 1) := by decide +kernel
theorem dL_law_203 : decode cL_law 203 = .ok (.iconst 2, 1) := by decide +kernel
theorem dL_law_204 : decode cL_law 204 = .ok (.iadd, 1) := by decide +kernel
theorem dL_law_205 : decode cL_law 205 = .ok (.iaload, 1) := by decide +kernel
theorem dL_law_206 : decode cL_law 206 = .ok (.aload_n 0, 1) := by decide +kernel
theorem dL_law_207 : decode cL_law 207 = .ok (.iload_n 3, 1) := by decide +kernel
theorem dL_law_208 : decode cL_law 208 = .ok (.iconst 3, 1) := by decide +kernel
theorem dL_law_209 : decode cL_law 209 = .ok (.iadd, 1) := by decide +kernel
theorem dL_law_210 : decode cL_law 210 = .ok (.iaload, 1) := by decide +kernel
theorem dL_law_211 : decode cL_law 211 = .ok (.i2l, 1) := by decide +kernel
theorem dL_law_212 : decode cL_law 212 = .ok (.bipush 32, 2) := by decide +kernel
theorem dL_law_214 : decode cL_law 214 = .ok (.lshl, 1) := by decide +kernel
theorem dL_law_215 : decode cL_law 215 = .ok (.aload_n 0, 1) := by decide +kernel
theorem dL_law_216 : decode cL_law 216 = .ok (.iload_n 3, 1) := by decide +kernel
theorem dL_law_217 : decode cL_law 217 = .ok (.iconst 4, 1) := by decide +kernel
theorem dL_law_218 : decode cL_law 218 = .ok (.iadd, 1) := by decide +kernel
theorem dL_law_219 : decode cL_law 219 = .ok (.iaload, 1) := by decide +kernel
theorem dL_law_220 : decode cL_law 220 = .ok (.i2l, 1) := by decide +kernel
theorem dL_law_221 : decode cL_law 221 = .ok (.ldc2_w 18, 3) := by decide +kernel
theorem dL_law_224 : decode cL_law 224 = .ok (.land, 1) := by decide +kernel
theorem dL_law_225 : decode cL_law 225 = .ok (.lor, 1) := by decide +kernel
theorem dL_law_226 : decode cL_law 226 = .ok (.invokevirtual 20, 3) := by decide +kernel
theorem dL_law_229 : decode cL_law 229 = .ok (.aload_n 2, 1) := by decide +kernel
theorem dL_law_230 : decode cL_law 230 = .ok (.aload_n 0, 1) := by decide +kernel
theorem dL_law_231 : decode cL_law 231 = .ok (.iload_n 3, 1) := by decide +kernel
theorem dL_law_232 : decode cL_law 232 = .ok (.iconst 1, 1) := by decide +kernel
theorem dL_law_233 : decode cL_law 233 = .ok (.iadd, 1) := by decide +kernel
theorem dL_law_234 : decode cL_law 234 = .ok (.iaload, 1) := by decide +kernel
theorem dL_law_235 : decode cL_law 235 = .ok (.aload_n 0, 1) := by decide +kernel
theorem dL_law_236 : decode cL_law 236 = .ok (.iload_n 3, 1) := by decide +kernel
theorem dL_law_237 : decode cL_law 237 = .ok (.iconst 2, 1) := by decide +kernel
theorem dL_law_238 : decode cL_law 238 = .ok (.iadd, 1) := by decide +kernel
theorem dL_law_239 : decode cL_law 239 = .ok (.iaload, 1) := by decide +kernel
theorem dL_law_240 : decode cL_law 240 = .ok (.aload_n 0, 1) := by decide +kernel
theorem dL_law_241 : decode cL_law 241 = .ok (.iload_n 3, 1) := by decide +kernel
theorem dL_law_242 : decode cL_law 242 = .ok (.iconst 3, 1) := by decide +kernel
theorem dL_law_243 : decode cL_law 243 = .ok (.iadd, 1) := by decide +kernel
theorem dL_law_244 : decode cL_law 244 = .ok (.iaload, 1) := by decide +kernel
theorem dL_law_245 : decode cL_law 245 = .ok (.i2l, 1) := by decide +kernel
theorem dL_law_246 : decode cL_law 246 = .ok (.bipush 32, 2) := by decide +kernel
theorem dL_law_248 : decode cL_law 248 = .ok (.lshl, 1) := by decide +kernel
theorem dL_law_249 : decode cL_law 249 = .ok (.aload_n 0, 1) := by decide +kernel
theorem dL_law_250 : decode cL_law 250 = .ok (.iload_n 3, 1) := by decide +kernel
theorem dL_law_251 : decode cL_law 251 = .ok (.iconst 4, 1) := by decide +kernel
theorem dL_law_252 : decode cL_law 252 = .ok (.iadd, 1) := by decide +kernel
theorem dL_law_253 : decode cL_law 253 = .ok (.iaload, 1) := by decide +kernel
theorem dL_law_254 : decode cL_law 254 = .ok (.i2l, 1) := by decide +kernel
theorem dL_law_255 : decode cL_law 255 = .ok (.ldc2_w 18, 3) := by decide +kernel
theorem dL_law_258 : decode cL_law 258 = .ok (.land, 1) := by decide +kernel
theorem dL_law_259 : decode cL_law 259 = .ok (.lor, 1) := by decide +kernel
theorem dL_law_260 : decode cL_law 260 = .ok (.invokevirtual 24, 3) := by decide +kernel
theorem dL_law_263 : decode cL_law 263 = .ok (.if_icmp .eq 988, 3) := by decide +kernel
theorem dL_law_266 : decode cL_law 266 = .ok (.iconst 0, 1) := by decide +kernel
theorem dL_law_267 : decode cL_law 267 = .ok (.ireturn, 1) := by decide +kernel
theorem dL_law_268 : decode cL_law 268 = .ok (.aload_n 1, 1) := by decide +kernel
theorem dL_law_269 : decode cL_law 269 = .ok (.aload_n 0, 1) := by decide +kernel
theorem dL_law_270 : decode cL_law 270 = .ok (.iload_n 3, 1) := by decide +kernel
theorem dL_law_271 : decode cL_law 271 = .ok (.iconst 1, 1) := by decide +kernel
theorem dL_law_272 : decode cL_law 272 = .ok (.iadd, 1) := by decide +kernel
theorem dL_law_273 : decode cL_law 273 = .ok (.iaload, 1) := by decide +kernel
theorem dL_law_274 : decode cL_law 274 = .ok (.aload_n 0, 1) := by decide +kernel
theorem dL_law_275 : decode cL_law 275 = .ok (.iload_n 3, 1) := by decide +kernel
theorem dL_law_276 : decode cL_law 276 = .ok (.iconst 2, 1) := by decide +kernel
theorem dL_law_277 : decode cL_law 277 = .ok (.iadd, 1) := by decide +kernel
theorem dL_law_278 : decode cL_law 278 = .ok (.iaload, 1) := by decide +kernel
theorem dL_law_279 : decode cL_law 279 = .ok (.aload_n 0, 1) := by decide +kernel
theorem dL_law_280 : decode cL_law 280 = .ok (.iload_n 3, 1) := by decide +kernel
theorem dL_law_281 : decode cL_law 281 = .ok (.iconst 3, 1) := by decide +kernel
theorem dL_law_282 : decode cL_law 282 = .ok (.iadd, 1) := by decide +kernel
theorem dL_law_283 : decode cL_law 283 = .ok (.iaload, 1) := by decide +kernel
theorem dL_law_284 : decode cL_law 284 = .ok (.aload_n 0, 1) := by decide +kernel
theorem dL_law_285 : decode cL_law 285 = .ok (.iload_n 3, 1) := by decide +kernel
theorem dL_law_286 : decode cL_law 286 = .ok (.iconst 4, 1) := by decide +kernel
theorem dL_law_287 : decode cL_law 287 = .ok (.iadd, 1) := by decide +kernel
theorem dL_law_288 : decode cL_law 288 = .ok (.iaload, 1) := by decide +kernel
theorem dL_law_289 : decode cL_law 289 = .ok (.aload_n 0, 1) := by decide +kernel
theorem dL_law_290 : decode cL_law 290 = .ok (.iload_n 3, 1) := by decide +kernel
theorem dL_law_291 : decode cL_law 291 = .ok (.iconst 5, 1) := by decide +kernel
theorem dL_law_292 : decode cL_law 292 = .ok (.iadd, 1) := by decide +kernel
theorem dL_law_293 : decode cL_law 293 = .ok (.iaload, 1) := by decide +kernel
theorem dL_law_294 : decode cL_law 294 = .ok (.invokevirtual 25, 3) := by decide +kernel
theorem dL_law_297 : decode cL_law 297 = .ok (.aload_n 2, 1) := by decide +kernel
theorem dL_law_298 : decode cL_law 298 = .ok (.aload_n 0, 1) := by decide +kernel
theorem dL_law_299 : decode cL_law 299 = .ok (.iload_n 3, 1) := by decide +kernel
theorem dL_law_300 : decode cL_law 300 = .ok (.iconst 1, 1) := by decide +kernel
theorem dL_law_301 : decode cL_law 301 = .ok (.iadd, 1) := by decide +kernel
theorem dL_law_302 : decode cL_law 302 = .ok (.iaload, 1) := by decide +kernel
theorem dL_law_303 : decode cL_law 303 = .ok (.aload_n 0, 1) := by decide +kernel
theorem dL_law_304 : decode cL_law 304 = .ok (.iload_n 3, 1) := by decide +kernel
theorem dL_law_305 : decode cL_law 305 = .ok (.iconst 2, 1) := by decide +kernel
theorem dL_law_306 : decode cL_law 306 = .ok (.iadd, 1) := by decide +kernel
theorem dL_law_307 : decode cL_law 307 = .ok (.iaload, 1) := by decide +kernel
theorem dL_law_308 : decode cL_law 308 = .ok (.aload_n 0, 1) := by decide +kernel
theorem dL_law_309 : decode cL_law 309 = .ok (.iload_n 3, 1) := by decide +kernel
theorem dL_law_310 : decode cL_law 310 = .ok (.iconst 3, 1) := by decide +kernel
theorem dL_law_311 : decode cL_law 311 = .ok (.iadd, 1) := by decide +kernel
theorem dL_law_312 : decode cL_law 312 = .ok (.iaload, 1) := by decide +kernel
theorem dL_law_313 : decode cL_law 313 = .ok (.aload_n 0, 1) := by decide +kernel
theorem dL_law_314 : decode cL_law 314 = .ok (.iload_n 3, 1) := by decide +kernel
theorem dL_law_315 : decode cL_law 315 = .ok (.iconst 4, 1) := by decide +kernel
theorem dL_law_316 : decode cL_law 316 = .ok (.iadd, 1) := by decide +kernel
theorem dL_law_317 : decode cL_law 317 = .ok (.iaload, 1) := by decide +kernel
theorem dL_law_318 : decode cL_law 318 = .ok (.aload_n 0, 1) := by decide +kernel
theorem dL_law_319 : decode cL_law 319 = .ok (.iload_n 3, 1) := by decide +kernel
theorem dL_law_320 : decode cL_law 320 = .ok (.iconst 5, 1) := by decide +kernel
theorem dL_law_321 : decode cL_law 321 = .ok (.iadd, 1) := by decide +kernel
theorem dL_law_322 : decode cL_law 322 = .ok (.iaload, 1) := by decide +kernel
theorem dL_law_323 : decode cL_law 323 = .ok (.invokevirtual 29, 3) := by decide +kernel
theorem dL_law_326 : decode cL_law 326 = .ok (.if_icmp .eq 925, 3) := by decide +kernel
theorem dL_law_329 : decode cL_law 329 = .ok (.iconst 0, 1) := by decide +kernel
theorem dL_law_330 : decode cL_law 330 = .ok (.ireturn, 1) := by decide +kernel
theorem dL_law_331 : decode cL_law 331 = .ok (.aload_n 1, 1) := by decide +kernel
theorem dL_law_332 : decode cL_law 332 = .ok (.aload_n 0, 1) := by decide +kernel
theorem dL_law_333 : decode cL_law 333 = .ok (.iload_n 3, 1) := by decide +kernel
theorem dL_law_334 : decode cL_law 334 = .ok (.iconst 1, 1) := by decide +kernel
theorem dL_law_335 : decode cL_law 335 = .ok (.iadd, 1) := by decide +kernel
theorem dL_law_336 : decode cL_law 336 = .ok (.iaload, 1) := by decide +kernel
theorem dL_law_337 : decode cL_law 337 = .ok (.aload_n 0, 1) := by decide +kernel
theorem dL_law_338 : decode cL_law 338 = .ok (.iload_n 3, 1) := by decide +kernel
theorem dL_law_339 : decode cL_law 339 = .ok (.iconst 2, 1) := by decide +kernel
theorem dL_law_340 : decode cL_law 340 = .ok (.iadd, 1) := by decide +kernel
theorem dL_law_341 : decode cL_law 341 = .ok (.iaload, 1) := by decide +kernel
theorem dL_law_342 : decode cL_law 342 = .ok (.aload_n 0, 1) := by decide +kernel
theorem dL_law_343 : decode cL_law 343 = .ok (.iload_n 3, 1) := by decide +kernel
theorem dL_law_344 : decode cL_law 344 = .ok (.iconst 3, 1) := by decide +kernel
theorem dL_law_345 : decode cL_law 345 = .ok (.iadd, 1) := by decide +kernel
theorem dL_law_346 : decode cL_law 346 = .ok (.iaload, 1) := by decide +kernel
theorem dL_law_347 : decode cL_law 347 = .ok (.i2l, 1) := by decide +kernel
theorem dL_law_348 : decode cL_law 348 = .ok (.bipush 32, 2) := by decide +kernel
theorem dL_law_350 : decode cL_law 350 = .ok (.lshl, 1) := by decide +kernel
theorem dL_law_351 : decode cL_law 351 = .ok (.aload_n 0, 1) := by decide +kernel
theorem dL_law_352 : decode cL_law 352 = .ok (.iload_n 3, 1) := by decide +kernel
theorem dL_law_353 : decode cL_law 353 = .ok (.iconst 4, 1) := by decide +kernel
theorem dL_law_354 : decode cL_law 354 = .ok (.iadd, 1) := by decide +kernel
theorem dL_law_355 : decode cL_law 355 = .ok (.iaload, 1) := by decide +kernel
theorem dL_law_356 : decode cL_law 356 = .ok (.i2l, 1) := by decide +kernel
theorem dL_law_357 : decode cL_law 357 = .ok (.ldc2_w 18, 3) := by decide +kernel
theorem dL_law_360 : decode cL_law 360 = .ok (.land, 1) := by decide +kernel
theorem dL_law_361 : decode cL_law 361 = .ok (.lor, 1) := by decide +kernel
theorem dL_law_362 : decode cL_law 362 = .ok (.invokevirtual 30, 3) := by decide +kernel
theorem dL_law_365 : decode cL_law 365 = .ok (.aload_n 2, 1) := by decide +kernel
theorem dL_law_366 : decode cL_law 366 = .ok (.aload_n 0, 1) := by decide +kernel
theorem dL_law_367 : decode cL_law 367 = .ok (.iload_n 3, 1) := by decide +kernel
theorem dL_law_368 : decode cL_law 368 = .ok (.iconst 1, 1) := by decide +kernel
theorem dL_law_369 : decode cL_law 369 = .ok (.iadd, 1) := by decide +kernel
theorem dL_law_370 : decode cL_law 370 = .ok (.iaload, 1) := by decide +kernel
theorem dL_law_371 : decode cL_law 371 = .ok (.aload_n 0, 1) := by decide +kernel
theorem dL_law_372 : decode cL_law 372 = .ok (.iload_n 3, 1) := by decide +kernel
theorem dL_law_373 : decode cL_law 373 = .ok (.iconst 2, 1) := by decide +kernel
theorem dL_law_374 : decode cL_law 374 = .ok (.iadd, 1) := by decide +kernel
theorem dL_law_375 : decode cL_law 375 = .ok (.iaload, 1) := by decide +kernel
theorem dL_law_376 : decode cL_law 376 = .ok (.aload_n 0, 1) := by decide +kernel
theorem dL_law_377 : decode cL_law 377 = .ok (.iload_n 3, 1) := by decide +kernel
theorem dL_law_378 : decode cL_law 378 = .ok (.iconst 3, 1) := by decide +kernel
theorem dL_law_379 : decode cL_law 379 = .ok (.iadd, 1) := by decide +kernel
theorem dL_law_380 : decode cL_law 380 = .ok (.iaload, 1) := by decide +kernel
theorem dL_law_381 : decode cL_law 381 = .ok (.i2l, 1) := by decide +kernel
theorem dL_law_382 : decode cL_law 382 = .ok (.bipush 32, 2) := by decide +kernel
theorem dL_law_384 : decode cL_law 384 = .ok (.lshl, 1) := by decide +kernel
theorem dL_law_385 : decode cL_law 385 = .ok (.aload_n 0, 1) := by decide +kernel
theorem dL_law_386 : decode cL_law 386 = .ok (.iload_n 3, 1) := by decide +kernel
theorem dL_law_387 : decode cL_law 387 = .ok (.iconst 4, 1) := by decide +kernel
theorem dL_law_388 : decode cL_law 388 = .ok (.iadd, 1) := by decide +kernel
theorem dL_law_389 : decode cL_law 389 = .ok (.iaload, 1) := by decide +kernel
theorem dL_law_390 : decode cL_law 390 = .ok (.i2l, 1) := by decide +kernel
theorem dL_law_391 : decode cL_law 391 = .ok (.ldc2_w 18, 3) := by decide +kernel
theorem dL_law_394 : decode cL_law 394 = .ok (.land, 1) := by decide +kernel
theorem dL_law_395 : decode cL_law 395 = .ok (.lor, 1) := by decide +kernel
theorem dL_law_396 : decode cL_law 396 = .ok (.invokevirtual 33, 3) := by decide +kernel
theorem dL_law_399 : decode cL_law 399 = .ok (.if_icmp .eq 852, 3) := by decide +kernel
theorem dL_law_402 : decode cL_law 402 = .ok (.iconst 0, 1) := by decide +kernel
theorem dL_law_403 : decode cL_law 403 = .ok (.ireturn, 1) := by decide +kernel
theorem dL_law_404 : decode cL_law 404 = .ok (.aload_n 1, 1) := by decide +kernel
theorem dL_law_405 : decode cL_law 405 = .ok (.aload_n 0, 1) := by decide +kernel
theorem dL_law_406 : decode cL_law 406 = .ok (.iload_n 3, 1) := by decide +kernel
theorem dL_law_407 : decode cL_law 407 = .ok (.iconst 1, 1) := by decide +kernel
theorem dL_law_408 : decode cL_law 408 = .ok (.iadd, 1) := by decide +kernel
theorem dL_law_409 : decode cL_law 409 = .ok (.iaload, 1) := by decide +kernel
theorem dL_law_410 : decode cL_law 410 = .ok (.aload_n 0, 1) := by decide +kernel
theorem dL_law_411 : decode cL_law 411 = .ok (.iload_n 3, 1) := by decide +kernel
theorem dL_law_412 : decode cL_law 412 = .ok (.iconst 2, 1) := by decide +kernel
theorem dL_law_413 : decode cL_law 413 = .ok (.iadd, 1) := by decide +kernel
theorem dL_law_414 : decode cL_law 414 = .ok (.iaload, 1) := by decide +kernel
theorem dL_law_415 : decode cL_law 415 = .ok (.aload_n 0, 1) := by decide +kernel
theorem dL_law_416 : decode cL_law 416 = .ok (.iload_n 3, 1) := by decide +kernel
theorem dL_law_417 : decode cL_law 417 = .ok (.iconst 3, 1) := by decide +kernel
theorem dL_law_418 : decode cL_law 418 = .ok (.iadd, 1) := by decide +kernel
theorem dL_law_419 : decode cL_law 419 = .ok (.iaload, 1) := by decide +kernel
theorem dL_law_420 : decode cL_law 420 = .ok (.aload_n 0, 1) := by decide +kernel
theorem dL_law_421 : decode cL_law 421 = .ok (.iload_n 3, 1) := by decide +kernel
theorem dL_law_422 : decode cL_law 422 = .ok (.iconst 4, 1) := by decide +kernel
theorem dL_law_423 : decode cL_law 423 = .ok (.iadd, 1) := by decide +kernel
theorem dL_law_424 : decode cL_law 424 = .ok (.iaload, 1) := by decide +kernel
theorem dL_law_425 : decode cL_law 425 = .ok (.aload_n 0, 1) := by decide +kernel
theorem dL_law_426 : decode cL_law 426 = .ok (.iload_n 3, 1) := by decide +kernel
theorem dL_law_427 : decode cL_law 427 = .ok (.iconst 5, 1) := by decide +kernel
theorem dL_law_428 : decode cL_law 428 = .ok (.iadd, 1) := by decide +kernel
theorem dL_law_429 : decode cL_law 429 = .ok (.iaload, 1) := by decide +kernel
theorem dL_law_430 : decode cL_law 430 = .ok (.invokevirtual 34, 3) := by decide +kernel
theorem dL_law_433 : decode cL_law 433 = .ok (.aload_n 2, 1) := by decide +kernel
theorem dL_law_434 : decode cL_law 434 = .ok (.aload_n 0, 1) := by decide +kernel
theorem dL_law_435 : decode cL_law 435 = .ok (.iload_n 3, 1) := by decide +kernel
theorem dL_law_436 : decode cL_law 436 = .ok (.iconst 1, 1) := by decide +kernel
theorem dL_law_437 : decode cL_law 437 = .ok (.iadd, 1) := by decide +kernel
theorem dL_law_438 : decode cL_law 438 = .ok (.iaload, 1) := by decide +kernel
theorem dL_law_439 : decode cL_law 439 = .ok (.aload_n 0, 1) := by decide +kernel
theorem dL_law_440 : decode cL_law 440 = .ok (.iload_n 3, 1) := by decide +kernel
theorem dL_law_441 : decode cL_law 441 = .ok (.iconst 2, 1) := by decide +kernel
theorem dL_law_442 : decode cL_law 442 = .ok (.iadd, 1) := by decide +kernel
theorem dL_law_443 : decode cL_law 443 = .ok (.iaload, 1) := by decide +kernel
theorem dL_law_444 : decode cL_law 444 = .ok (.aload_n 0, 1) := by decide +kernel
theorem dL_law_445 : decode cL_law 445 = .ok (.iload_n 3, 1) := by decide +kernel
theorem dL_law_446 : decode cL_law 446 = .ok (.iconst 3, 1) := by decide +kernel
theorem dL_law_447 : decode cL_law 447 = .ok (.iadd, 1) := by decide +kernel
theorem dL_law_448 : decode cL_law 448 = .ok (.iaload, 1) := by decide +kernel
theorem dL_law_449 : decode cL_law 449 = .ok (.aload_n 0, 1) := by decide +kernel
theorem dL_law_450 : decode cL_law 450 = .ok (.iload_n 3, 1) := by decide +kernel
theorem dL_law_451 : decode cL_law 451 = .ok (.iconst 4, 1) := by decide +kernel
theorem dL_law_452 : decode cL_law 452 = .ok (.iadd, 1) := by decide +kernel
theorem dL_law_453 : decode cL_law 453 = .ok (.iaload, 1) := by decide +kernel
theorem dL_law_454 : decode cL_law 454 = .ok (.aload_n 0, 1) := by decide +kernel
theorem dL_law_455 : decode cL_law 455 = .ok (.iload_n 3, 1) := by decide +kernel
theorem dL_law_456 : decode cL_law 456 = .ok (.iconst 5, 1) := by decide +kernel
theorem dL_law_457 : decode cL_law 457 = .ok (.iadd, 1) := by decide +kernel
theorem dL_law_458 : decode cL_law 458 = .ok (.iaload, 1) := by decide +kernel
theorem dL_law_459 : decode cL_law 459 = .ok (.invokevirtual 37, 3) := by decide +kernel
theorem dL_law_462 : decode cL_law 462 = .ok (.if_icmp .eq 789, 3) := by decide +kernel
theorem dL_law_465 : decode cL_law 465 = .ok (.iconst 0, 1) := by decide +kernel
theorem dL_law_466 : decode cL_law 466 = .ok (.ireturn, 1) := by decide +kernel
theorem dL_law_467 : decode cL_law 467 = .ok (.aload_n 1, 1) := by decide +kernel
theorem dL_law_468 : decode cL_law 468 = .ok (.aload_n 0, 1) := by decide +kernel
theorem dL_law_469 : decode cL_law 469 = .ok (.iload_n 3, 1) := by decide +kernel
theorem dL_law_470 : decode cL_law 470 = .ok (.iconst 1, 1) := by decide +kernel
theorem dL_law_471 : decode cL_law 471 = .ok (.iadd, 1) := by decide +kernel
theorem dL_law_472 : decode cL_law 472 = .ok (.iaload, 1) := by decide +kernel
theorem dL_law_473 : decode cL_law 473 = .ok (.invokevirtual 38, 3) := by decide +kernel
theorem dL_law_476 : decode cL_law 476 = .ok (.aload_n 2, 1) := by decide +kernel
theorem dL_law_477 : decode cL_law 477 = .ok (.aload_n 0, 1) := by decide +kernel
theorem dL_law_478 : decode cL_law 478 = .ok (.iload_n 3, 1) := by decide +kernel
theorem dL_law_479 : decode cL_law 479 = .ok (.iconst 1, 1) := by decide +kernel
theorem dL_law_480 : decode cL_law 480 = .ok (.iadd, 1) := by decide +kernel
theorem dL_law_481 : decode cL_law 481 = .ok (.iaload, 1) := by decide +kernel
theorem dL_law_482 : decode cL_law 482 = .ok (.invokevirtual 42, 3) := by decide +kernel
theorem dL_law_485 : decode cL_law 485 = .ok (.if_icmp .eq 766, 3) := by decide +kernel
theorem dL_law_488 : decode cL_law 488 = .ok (.iconst 0, 1) := by decide +kernel
theorem dL_law_489 : decode cL_law 489 = .ok (.ireturn, 1) := by decide +kernel
theorem dL_law_490 : decode cL_law 490 = .ok (.aload_n 1, 1) := by decide +kernel
theorem dL_law_491 : decode cL_law 491 = .ok (.aload_n 0, 1) := by decide +kernel
theorem dL_law_492 : decode cL_law 492 = .ok (.iload_n 3, 1) := by decide +kernel
theorem dL_law_493 : decode cL_law 493 = .ok (.iconst 1, 1) := by decide +kernel
theorem dL_law_494 : decode cL_law 494 = .ok (.iadd, 1) := by decide +kernel
theorem dL_law_495 : decode cL_law 495 = .ok (.iaload, 1) := by decide +kernel
theorem dL_law_496 : decode cL_law 496 = .ok (.aload_n 0, 1) := by decide +kernel
theorem dL_law_497 : decode cL_law 497 = .ok (.iload_n 3, 1) := by decide +kernel
theorem dL_law_498 : decode cL_law 498 = .ok (.iconst 2, 1) := by decide +kernel
theorem dL_law_499 : decode cL_law 499 = .ok (.iadd, 1) := by decide +kernel
theorem dL_law_500 : decode cL_law 500 = .ok (.iaload, 1) := by decide +kernel
theorem dL_law_501 : decode cL_law 501 = .ok (.aload_n 0, 1) := by decide +kernel
theorem dL_law_502 : decode cL_law 502 = .ok (.iload_n 3, 1) := by decide +kernel
theorem dL_law_503 : decode cL_law 503 = .ok (.iconst 3, 1) := by decide +kernel
theorem dL_law_504 : decode cL_law 504 = .ok (.iadd, 1) := by decide +kernel
theorem dL_law_505 : decode cL_law 505 = .ok (.iaload, 1) := by decide +kernel
theorem dL_law_506 : decode cL_law 506 = .ok (.invokevirtual 43, 3) := by decide +kernel
theorem dL_law_509 : decode cL_law 509 = .ok (.aload_n 2, 1) := by decide +kernel
theorem dL_law_510 : decode cL_law 510 = .ok (.aload_n 0, 1) := by decide +kernel
theorem dL_law_511 : decode cL_law 511 = .ok (.iload_n 3, 1) := by decide +kernel
theorem dL_law_512 : decode cL_law 512 = .ok (.iconst 1, 1) := by decide +kernel
theorem dL_law_513 : decode cL_law 513 = .ok (.iadd, 1) := by decide +kernel
theorem dL_law_514 : decode cL_law 514 = .ok (.iaload, 1) := by decide +kernel
theorem dL_law_515 : decode cL_law 515 = .ok (.aload_n 0, 1) := by decide +kernel
theorem dL_law_516 : decode cL_law 516 = .ok (.iload_n 3, 1) := by decide +kernel
theorem dL_law_517 : decode cL_law 517 = .ok (.iconst 2, 1) := by decide +kernel
theorem dL_law_518 : decode cL_law 518 = .ok (.iadd, 1) := by decide +kernel
theorem dL_law_519 : decode cL_law 519 = .ok (.iaload, 1) := by decide +kernel
theorem dL_law_520 : decode cL_law 520 = .ok (.aload_n 0, 1) := by decide +kernel
theorem dL_law_521 : decode cL_law 521 = .ok (.iload_n 3, 1) := by decide +kernel
theorem dL_law_522 : decode cL_law 522 = .ok (.iconst 3, 1) := by decide +kernel
theorem dL_law_523 : decode cL_law 523 = .ok (.iadd, 1) := by decide +kernel
theorem dL_law_524 : decode cL_law 524 = .ok (.iaload, 1) := by decide +kernel
theorem dL_law_525 : decode cL_law 525 = .ok (.invokevirtual 46, 3) := by decide +kernel
theorem dL_law_528 : decode cL_law 528 = .ok (.if_icmp .eq 723, 3) := by decide +kernel
theorem dL_law_531 : decode cL_law 531 = .ok (.iconst 0, 1) := by decide +kernel
theorem dL_law_532 : decode cL_law 532 = .ok (.ireturn, 1) := by decide +kernel
theorem dL_law_533 : decode cL_law 533 = .ok (.aload_n 1, 1) := by decide +kernel
theorem dL_law_534 : decode cL_law 534 = .ok (.aload_n 0, 1) := by decide +kernel
theorem dL_law_535 : decode cL_law 535 = .ok (.iload_n 3, 1) := by decide +kernel
theorem dL_law_536 : decode cL_law 536 = .ok (.iconst 1, 1) := by decide +kernel
theorem dL_law_537 : decode cL_law 537 = .ok (.iadd, 1) := by decide +kernel
theorem dL_law_538 : decode cL_law 538 = .ok (.iaload, 1) := by decide +kernel
theorem dL_law_539 : decode cL_law 539 = .ok (.aload_n 0, 1) := by decide +kernel
theorem dL_law_540 : decode cL_law 540 = .ok (.iload_n 3, 1) := by decide +kernel
theorem dL_law_541 : decode cL_law 541 = .ok (.iconst 2, 1) := by decide +kernel
theorem dL_law_542 : decode cL_law 542 = .ok (.iadd, 1) := by decide +kernel
theorem dL_law_543 : decode cL_law 543 = .ok (.iaload, 1) := by decide +kernel
theorem dL_law_544 : decode cL_law 544 = .ok (.aload_n 0, 1) := by decide +kernel
theorem dL_law_545 : decode cL_law 545 = .ok (.iload_n 3, 1) := by decide +kernel
theorem dL_law_546 : decode cL_law 546 = .ok (.iconst 3, 1) := by decide +kernel
theorem dL_law_547 : decode cL_law 547 = .ok (.iadd, 1) := by decide +kernel
theorem dL_law_548 : decode cL_law 548 = .ok (.iaload, 1) := by decide +kernel
theorem dL_law_549 : decode cL_law 549 = .ok (.aload_n 0, 1) := by decide +kernel
theorem dL_law_550 : decode cL_law 550 = .ok (.iload_n 3, 1) := by decide +kernel
theorem dL_law_551 : decode cL_law 551 = .ok (.iconst 4, 1) := by decide +kernel
theorem dL_law_552 : decode cL_law 552 = .ok (.iadd, 1) := by decide +kernel
theorem dL_law_553 : decode cL_law 553 = .ok (.iaload, 1) := by decide +kernel
theorem dL_law_554 : decode cL_law 554 = .ok (.invokevirtual 47, 3) := by decide +kernel
theorem dL_law_557 : decode cL_law 557 = .ok (.aload_n 2, 1) := by decide +kernel
theorem dL_law_558 : decode cL_law 558 = .ok (.aload_n 0, 1) := by decide +kernel
theorem dL_law_559 : decode cL_law 559 = .ok (.iload_n 3, 1) := by decide +kernel
theorem dL_law_560 : decode cL_law 560 = .ok (.iconst 1, 1) := by decide +kernel
theorem dL_law_561 : decode cL_law 561 = .ok (.iadd, 1) := by decide +kernel
theorem dL_law_562 : decode cL_law 562 = .ok (.iaload, 1) := by decide +kernel
theorem dL_law_563 : decode cL_law 563 = .ok (.aload_n 0, 1) := by decide +kernel
theorem dL_law_564 : decode cL_law 564 = .ok (.iload_n 3, 1) := by decide +kernel
theorem dL_law_565 : decode cL_law 565 = .ok (.iconst 2, 1) := by decide +kernel
theorem dL_law_566 : decode cL_law 566 = .ok (.iadd, 1) := by decide +kernel
theorem dL_law_567 : decode cL_law 567 = .ok (.iaload, 1) := by decide +kernel
theorem dL_law_568 : decode cL_law 568 = .ok (.aload_n 0, 1) := by decide +kernel
theorem dL_law_569 : decode cL_law 569 = .ok (.iload_n 3, 1) := by decide +kernel
theorem dL_law_570 : decode cL_law 570 = .ok (.iconst 3, 1) := by decide +kernel
theorem dL_law_571 : decode cL_law 571 = .ok (.iadd, 1) := by decide +kernel
theorem dL_law_572 : decode cL_law 572 = .ok (.iaload, 1) := by decide +kernel
theorem dL_law_573 : decode cL_law 573 = .ok (.aload_n 0, 1) := by decide +kernel
theorem dL_law_574 : decode cL_law 574 = .ok (.iload_n 3, 1) := by decide +kernel
theorem dL_law_575 : decode cL_law 575 = .ok (.iconst 4, 1) := by decide +kernel
theorem dL_law_576 : decode cL_law 576 = .ok (.iadd, 1) := by decide +kernel
theorem dL_law_577 : decode cL_law 577 = .ok (.iaload, 1) := by decide +kernel
theorem dL_law_578 : decode cL_law 578 = .ok (.invokevirtual 51, 3) := by decide +kernel
theorem dL_law_581 : decode cL_law 581 = .ok (.if_icmp .eq 670, 3) := by decide +kernel
theorem dL_law_584 : decode cL_law 584 = .ok (.iconst 0, 1) := by decide +kernel
theorem dL_law_585 : decode cL_law 585 = .ok (.ireturn, 1) := by decide +kernel
theorem dL_law_586 : decode cL_law 586 = .ok (.aload_n 1, 1) := by decide +kernel
theorem dL_law_587 : decode cL_law 587 = .ok (.aload_n 0, 1) := by decide +kernel
theorem dL_law_588 : decode cL_law 588 = .ok (.iload_n 3, 1) := by decide +kernel
theorem dL_law_589 : decode cL_law 589 = .ok (.iconst 1, 1) := by decide +kernel
theorem dL_law_590 : decode cL_law 590 = .ok (.iadd, 1) := by decide +kernel
theorem dL_law_591 : decode cL_law 591 = .ok (.iaload, 1) := by decide +kernel
theorem dL_law_592 : decode cL_law 592 = .ok (.aload_n 0, 1) := by decide +kernel
theorem dL_law_593 : decode cL_law 593 = .ok (.iload_n 3, 1) := by decide +kernel
theorem dL_law_594 : decode cL_law 594 = .ok (.iconst 2, 1) := by decide +kernel
theorem dL_law_595 : decode cL_law 595 = .ok (.iadd, 1) := by decide +kernel
theorem dL_law_596 : decode cL_law 596 = .ok (.iaload, 1) := by decide +kernel
theorem dL_law_597 : decode cL_law 597 = .ok (.aload_n 0, 1) := by decide +kernel
theorem dL_law_598 : decode cL_law 598 = .ok (.iload_n 3, 1) := by decide +kernel
theorem dL_law_599 : decode cL_law 599 = .ok (.iconst 3, 1) := by decide +kernel
theorem dL_law_600 : decode cL_law 600 = .ok (.iadd, 1) := by decide +kernel
theorem dL_law_601 : decode cL_law 601 = .ok (.iaload, 1) := by decide +kernel
theorem dL_law_602 : decode cL_law 602 = .ok (.invokevirtual 52, 3) := by decide +kernel
theorem dL_law_605 : decode cL_law 605 = .ok (.aload_n 2, 1) := by decide +kernel
theorem dL_law_606 : decode cL_law 606 = .ok (.aload_n 0, 1) := by decide +kernel
theorem dL_law_607 : decode cL_law 607 = .ok (.iload_n 3, 1) := by decide +kernel
theorem dL_law_608 : decode cL_law 608 = .ok (.iconst 1, 1) := by decide +kernel
theorem dL_law_609 : decode cL_law 609 = .ok (.iadd, 1) := by decide +kernel
theorem dL_law_610 : decode cL_law 610 = .ok (.iaload, 1) := by decide +kernel
theorem dL_law_611 : decode cL_law 611 = .ok (.aload_n 0, 1) := by decide +kernel
theorem dL_law_612 : decode cL_law 612 = .ok (.iload_n 3, 1) := by decide +kernel
theorem dL_law_613 : decode cL_law 613 = .ok (.iconst 2, 1) := by decide +kernel
theorem dL_law_614 : decode cL_law 614 = .ok (.iadd, 1) := by decide +kernel
theorem dL_law_615 : decode cL_law 615 = .ok (.iaload, 1) := by decide +kernel
theorem dL_law_616 : decode cL_law 616 = .ok (.aload_n 0, 1) := by decide +kernel
theorem dL_law_617 : decode cL_law 617 = .ok (.iload_n 3, 1) := by decide +kernel
theorem dL_law_618 : decode cL_law 618 = .ok (.iconst 3, 1) := by decide +kernel
theorem dL_law_619 : decode cL_law 619 = .ok (.iadd, 1) := by decide +kernel
theorem dL_law_620 : decode cL_law 620 = .ok (.iaload, 1) := by decide +kernel
theorem dL_law_621 : decode cL_law 621 = .ok (.invokevirtual 55, 3) := by decide +kernel
theorem dL_law_624 : decode cL_law 624 = .ok (.if_icmp .eq 627, 3) := by decide +kernel
theorem dL_law_627 : decode cL_law 627 = .ok (.iconst 0, 1) := by decide +kernel
theorem dL_law_628 : decode cL_law 628 = .ok (.ireturn, 1) := by decide +kernel
theorem dL_law_629 : decode cL_law 629 = .ok (.aload_n 1, 1) := by decide +kernel
theorem dL_law_630 : decode cL_law 630 = .ok (.aload_n 0, 1) := by decide +kernel
theorem dL_law_631 : decode cL_law 631 = .ok (.iload_n 3, 1) := by decide +kernel
theorem dL_law_632 : decode cL_law 632 = .ok (.iconst 1, 1) := by decide +kernel
theorem dL_law_633 : decode cL_law 633 = .ok (.iadd, 1) := by decide +kernel
theorem dL_law_634 : decode cL_law 634 = .ok (.iaload, 1) := by decide +kernel
theorem dL_law_635 : decode cL_law 635 = .ok (.aload_n 0, 1) := by decide +kernel
theorem dL_law_636 : decode cL_law 636 = .ok (.iload_n 3, 1) := by decide +kernel
theorem dL_law_637 : decode cL_law 637 = .ok (.iconst 2, 1) := by decide +kernel
theorem dL_law_638 : decode cL_law 638 = .ok (.iadd, 1) := by decide +kernel
theorem dL_law_639 : decode cL_law 639 = .ok (.iaload, 1) := by decide +kernel
theorem dL_law_640 : decode cL_law 640 = .ok (.invokevirtual 56, 3) := by decide +kernel
theorem dL_law_643 : decode cL_law 643 = .ok (.aload_n 2, 1) := by decide +kernel
theorem dL_law_644 : decode cL_law 644 = .ok (.aload_n 0, 1) := by decide +kernel
theorem dL_law_645 : decode cL_law 645 = .ok (.iload_n 3, 1) := by decide +kernel
theorem dL_law_646 : decode cL_law 646 = .ok (.iconst 1, 1) := by decide +kernel
theorem dL_law_647 : decode cL_law 647 = .ok (.iadd, 1) := by decide +kernel
theorem dL_law_648 : decode cL_law 648 = .ok (.iaload, 1) := by decide +kernel
theorem dL_law_649 : decode cL_law 649 = .ok (.aload_n 0, 1) := by decide +kernel
theorem dL_law_650 : decode cL_law 650 = .ok (.iload_n 3, 1) := by decide +kernel
theorem dL_law_651 : decode cL_law 651 = .ok (.iconst 2, 1) := by decide +kernel
theorem dL_law_652 : decode cL_law 652 = .ok (.iadd, 1) := by decide +kernel
theorem dL_law_653 : decode cL_law 653 = .ok (.iaload, 1) := by decide +kernel
theorem dL_law_654 : decode cL_law 654 = .ok (.invokevirtual 60, 3) := by decide +kernel
theorem dL_law_657 : decode cL_law 657 = .ok (.if_icmp .eq 594, 3) := by decide +kernel
theorem dL_law_660 : decode cL_law 660 = .ok (.iconst 0, 1) := by decide +kernel
theorem dL_law_661 : decode cL_law 661 = .ok (.ireturn, 1) := by decide +kernel
theorem dL_law_662 : decode cL_law 662 = .ok (.aload_n 1, 1) := by decide +kernel
theorem dL_law_663 : decode cL_law 663 = .ok (.aload_n 0, 1) := by decide +kernel
theorem dL_law_664 : decode cL_law 664 = .ok (.iload_n 3, 1) := by decide +kernel
theorem dL_law_665 : decode cL_law 665 = .ok (.iconst 1, 1) := by decide +kernel
theorem dL_law_666 : decode cL_law 666 = .ok (.iadd, 1) := by decide +kernel
theorem dL_law_667 : decode cL_law 667 = .ok (.iaload, 1) := by decide +kernel
theorem dL_law_668 : decode cL_law 668 = .ok (.aload_n 0, 1) := by decide +kernel
theorem dL_law_669 : decode cL_law 669 = .ok (.iload_n 3, 1) := by decide +kernel
theorem dL_law_670 : decode cL_law 670 = .ok (.iconst 2, 1) := by decide +kernel
theorem dL_law_671 : decode cL_law 671 = .ok (.iadd, 1) := by decide +kernel
theorem dL_law_672 : decode cL_law 672 = .ok (.iaload, 1) := by decide +kernel
theorem dL_law_673 : decode cL_law 673 = .ok (.aload_n 0, 1) := by decide +kernel
theorem dL_law_674 : decode cL_law 674 = .ok (.iload_n 3, 1) := by decide +kernel
theorem dL_law_675 : decode cL_law 675 = .ok (.iconst 3, 1) := by decide +kernel
theorem dL_law_676 : decode cL_law 676 = .ok (.iadd, 1) := by decide +kernel
theorem dL_law_677 : decode cL_law 677 = .ok (.iaload, 1) := by decide +kernel
theorem dL_law_678 : decode cL_law 678 = .ok (.invokevirtual 61, 3) := by decide +kernel
theorem dL_law_681 : decode cL_law 681 = .ok (.aload_n 2, 1) := by decide +kernel
theorem dL_law_682 : decode cL_law 682 = .ok (.aload_n 0, 1) := by decide +kernel
theorem dL_law_683 : decode cL_law 683 = .ok (.iload_n 3, 1) := by decide +kernel
theorem dL_law_684 : decode cL_law 684 = .ok (.iconst 1, 1) := by decide +kernel
theorem dL_law_685 : decode cL_law 685 = .ok (.iadd, 1) := by decide +kernel
theorem dL_law_686 : decode cL_law 686 = .ok (.iaload, 1) := by decide +kernel
theorem dL_law_687 : decode cL_law 687 = .ok (.aload_n 0, 1) := by decide +kernel
theorem dL_law_688 : decode cL_law 688 = .ok (.iload_n 3, 1) := by decide +kernel
theorem dL_law_689 : decode cL_law 689 = .ok (.iconst 2, 1) := by decide +kernel
theorem dL_law_690 : decode cL_law 690 = .ok (.iadd, 1) := by decide +kernel
theorem dL_law_691 : decode cL_law 691 = .ok (.iaload, 1) := by decide +kernel
theorem dL_law_692 : decode cL_law 692 = .ok (.aload_n 0, 1) := by decide +kernel
theorem dL_law_693 : decode cL_law 693 = .ok (.iload_n 3, 1) := by decide +kernel
theorem dL_law_694 : decode cL_law 694 = .ok (.iconst 3, 1) := by decide +kernel
theorem dL_law_695 : decode cL_law 695 = .ok (.iadd, 1) := by decide +kernel
theorem dL_law_696 : decode cL_law 696 = .ok (.iaload, 1) := by decide +kernel
theorem dL_law_697 : decode cL_law 697 = .ok (.invokevirtual 64, 3) := by decide +kernel
theorem dL_law_700 : decode cL_law 700 = .ok (.if_icmp .eq 551, 3) := by decide +kernel
theorem dL_law_703 : decode cL_law 703 = .ok (.iconst 0, 1) := by decide +kernel
theorem dL_law_704 : decode cL_law 704 = .ok (.ireturn, 1) := by decide +kernel
theorem dL_law_705 : decode cL_law 705 = .ok (.aload_n 1, 1) := by decide +kernel
theorem dL_law_706 : decode cL_law 706 = .ok (.aload_n 0, 1) := by decide +kernel
theorem dL_law_707 : decode cL_law 707 = .ok (.iload_n 3, 1) := by decide +kernel
theorem dL_law_708 : decode cL_law 708 = .ok (.iconst 1, 1) := by decide +kernel
theorem dL_law_709 : decode cL_law 709 = .ok (.iadd, 1) := by decide +kernel
theorem dL_law_710 : decode cL_law 710 = .ok (.iaload, 1) := by decide +kernel
theorem dL_law_711 : decode cL_law 711 = .ok (.aload_n 0, 1) := by decide +kernel
theorem dL_law_712 : decode cL_law 712 = .ok (.iload_n 3, 1) := by decide +kernel
theorem dL_law_713 : decode cL_law 713 = .ok (.iconst 2, 1) := by decide +kernel
theorem dL_law_714 : decode cL_law 714 = .ok (.iadd, 1) := by decide +kernel
theorem dL_law_715 : decode cL_law 715 = .ok (.iaload, 1) := by decide +kernel
theorem dL_law_716 : decode cL_law 716 = .ok (.invokevirtual 65, 3) := by decide +kernel
theorem dL_law_719 : decode cL_law 719 = .ok (.aload_n 2, 1) := by decide +kernel
theorem dL_law_720 : decode cL_law 720 = .ok (.aload_n 0, 1) := by decide +kernel
theorem dL_law_721 : decode cL_law 721 = .ok (.iload_n 3, 1) := by decide +kernel
theorem dL_law_722 : decode cL_law 722 = .ok (.iconst 1, 1) := by decide +kernel
theorem dL_law_723 : decode cL_law 723 = .ok (.iadd, 1) := by decide +kernel
theorem dL_law_724 : decode cL_law 724 = .ok (.iaload, 1) := by decide +kernel
theorem dL_law_725 : decode cL_law 725 = .ok (.aload_n 0, 1) := by decide +kernel
theorem dL_law_726 : decode cL_law 726 = .ok (.iload_n 3, 1) := by decide +kernel
theorem dL_law_727 : decode cL_law 727 = .ok (.iconst 2, 1) := by decide +kernel
theorem dL_law_728 : decode cL_law 728 = .ok (.iadd, 1) := by decide +kernel
theorem dL_law_729 : decode cL_law 729 = .ok (.iaload, 1) := by decide +kernel
theorem dL_law_730 : decode cL_law 730 = .ok (.invokevirtual 68, 3) := by decide +kernel
theorem dL_law_733 : decode cL_law 733 = .ok (.if_icmp .eq 518, 3) := by decide +kernel
theorem dL_law_736 : decode cL_law 736 = .ok (.iconst 0, 1) := by decide +kernel
theorem dL_law_737 : decode cL_law 737 = .ok (.ireturn, 1) := by decide +kernel
theorem dL_law_738 : decode cL_law 738 = .ok (.aload_n 1, 1) := by decide +kernel
theorem dL_law_739 : decode cL_law 739 = .ok (.aload_n 0, 1) := by decide +kernel
theorem dL_law_740 : decode cL_law 740 = .ok (.iload_n 3, 1) := by decide +kernel
theorem dL_law_741 : decode cL_law 741 = .ok (.iconst 1, 1) := by decide +kernel
theorem dL_law_742 : decode cL_law 742 = .ok (.iadd, 1) := by decide +kernel
theorem dL_law_743 : decode cL_law 743 = .ok (.iaload, 1) := by decide +kernel
theorem dL_law_744 : decode cL_law 744 = .ok (.invokevirtual 69, 3) := by decide +kernel
theorem dL_law_747 : decode cL_law 747 = .ok (.aload_n 2, 1) := by decide +kernel
theorem dL_law_748 : decode cL_law 748 = .ok (.aload_n 0, 1) := by decide +kernel
theorem dL_law_749 : decode cL_law 749 = .ok (.iload_n 3, 1) := by decide +kernel
theorem dL_law_750 : decode cL_law 750 = .ok (.iconst 1, 1) := by decide +kernel
theorem dL_law_751 : decode cL_law 751 = .ok (.iadd, 1) := by decide +kernel
theorem dL_law_752 : decode cL_law 752 = .ok (.iaload, 1) := by decide +kernel
theorem dL_law_753 : decode cL_law 753 = .ok (.invokevirtual 72, 3) := by decide +kernel
theorem dL_law_756 : decode cL_law 756 = .ok (.if_icmp .eq 495, 3) := by decide +kernel
theorem dL_law_759 : decode cL_law 759 = .ok (.iconst 0, 1) := by decide +kernel
theorem dL_law_760 : decode cL_law 760 = .ok (.ireturn, 1) := by decide +kernel
theorem dL_law_761 : decode cL_law 761 = .ok (.aload_n 1, 1) := by decide +kernel
theorem dL_law_762 : decode cL_law 762 = .ok (.aload_n 0, 1) := by decide +kernel
theorem dL_law_763 : decode cL_law 763 = .ok (.iload_n 3, 1) := by decide +kernel
theorem dL_law_764 : decode cL_law 764 = .ok (.iconst 1, 1) := by decide +kernel
theorem dL_law_765 : decode cL_law 765 = .ok (.iadd, 1) := by decide +kernel
theorem dL_law_766 : decode cL_law 766 = .ok (.iaload, 1) := by decide +kernel
theorem dL_law_767 : decode cL_law 767 = .ok (.invokevirtual 73, 3) := by decide +kernel
theorem dL_law_770 : decode cL_law 770 = .ok (.aload_n 2, 1) := by decide +kernel
theorem dL_law_771 : decode cL_law 771 = .ok (.aload_n 0, 1) := by decide +kernel
theorem dL_law_772 : decode cL_law 772 = .ok (.iload_n 3, 1) := by decide +kernel
theorem dL_law_773 : decode cL_law 773 = .ok (.iconst 1, 1) := by decide +kernel
theorem dL_law_774 : decode cL_law 774 = .ok (.iadd, 1) := by decide +kernel
theorem dL_law_775 : decode cL_law 775 = .ok (.iaload, 1) := by decide +kernel
theorem dL_law_776 : decode cL_law 776 = .ok (.invokevirtual 76, 3) := by decide +kernel
theorem dL_law_779 : decode cL_law 779 = .ok (.if_icmp .eq 472, 3) := by decide +kernel
theorem dL_law_782 : decode cL_law 782 = .ok (.iconst 0, 1) := by decide +kernel
theorem dL_law_783 : decode cL_law 783 = .ok (.ireturn, 1) := by decide +kernel
theorem dL_law_784 : decode cL_law 784 = .ok (.aload_n 1, 1) := by decide +kernel
theorem dL_law_785 : decode cL_law 785 = .ok (.aload_n 0, 1) := by decide +kernel
theorem dL_law_786 : decode cL_law 786 = .ok (.iload_n 3, 1) := by decide +kernel
theorem dL_law_787 : decode cL_law 787 = .ok (.iconst 1, 1) := by decide +kernel
theorem dL_law_788 : decode cL_law 788 = .ok (.iadd, 1) := by decide +kernel
theorem dL_law_789 : decode cL_law 789 = .ok (.iaload, 1) := by decide +kernel
theorem dL_law_790 : decode cL_law 790 = .ok (.aload_n 0, 1) := by decide +kernel
theorem dL_law_791 : decode cL_law 791 = .ok (.iload_n 3, 1) := by decide +kernel
theorem dL_law_792 : decode cL_law 792 = .ok (.iconst 2, 1) := by decide +kernel
theorem dL_law_793 : decode cL_law 793 = .ok (.iadd, 1) := by decide +kernel
theorem dL_law_794 : decode cL_law 794 = .ok (.iaload, 1) := by decide +kernel
theorem dL_law_795 : decode cL_law 795 = .ok (.invokevirtual 77, 3) := by decide +kernel
theorem dL_law_798 : decode cL_law 798 = .ok (.aload_n 2, 1) := by decide +kernel
theorem dL_law_799 : decode cL_law 799 = .ok (.aload_n 0, 1) := by decide +kernel
theorem dL_law_800 : decode cL_law 800 = .ok (.iload_n 3, 1) := by decide +kernel
theorem dL_law_801 : decode cL_law 801 = .ok (.iconst 1, 1) := by decide +kernel
theorem dL_law_802 : decode cL_law 802 = .ok (.iadd, 1) := by decide +kernel
theorem dL_law_803 : decode cL_law 803 = .ok (.iaload, 1) := by decide +kernel
theorem dL_law_804 : decode cL_law 804 = .ok (.aload_n 0, 1) := by decide +kernel
theorem dL_law_805 : decode cL_law 805 = .ok (.iload_n 3, 1) := by decide +kernel
theorem dL_law_806 : decode cL_law 806 = .ok (.iconst 2, 1) := by decide +kernel
theorem dL_law_807 : decode cL_law 807 = .ok (.iadd, 1) := by decide +kernel
theorem dL_law_808 : decode cL_law 808 = .ok (.iaload, 1) := by decide +kernel
theorem dL_law_809 : decode cL_law 809 = .ok (.invokevirtual 80, 3) := by decide +kernel
theorem dL_law_812 : decode cL_law 812 = .ok (.if_icmp .eq 439, 3) := by decide +kernel
theorem dL_law_815 : decode cL_law 815 = .ok (.iconst 0, 1) := by decide +kernel
theorem dL_law_816 : decode cL_law 816 = .ok (.ireturn, 1) := by decide +kernel
theorem dL_law_817 : decode cL_law 817 = .ok (.aload_n 1, 1) := by decide +kernel
theorem dL_law_818 : decode cL_law 818 = .ok (.invokevirtual 81, 3) := by decide +kernel
theorem dL_law_821 : decode cL_law 821 = .ok (.aload_n 2, 1) := by decide +kernel
theorem dL_law_822 : decode cL_law 822 = .ok (.invokevirtual 85, 3) := by decide +kernel
theorem dL_law_825 : decode cL_law 825 = .ok (.if_icmp .eq 426, 3) := by decide +kernel
theorem dL_law_828 : decode cL_law 828 = .ok (.iconst 0, 1) := by decide +kernel
theorem dL_law_829 : decode cL_law 829 = .ok (.ireturn, 1) := by decide +kernel
theorem dL_law_830 : decode cL_law 830 = .ok (.aload_n 1, 1) := by decide +kernel
theorem dL_law_831 : decode cL_law 831 = .ok (.aload_n 0, 1) := by decide +kernel
theorem dL_law_832 : decode cL_law 832 = .ok (.iload_n 3, 1) := by decide +kernel
theorem dL_law_833 : decode cL_law 833 = .ok (.iconst 1, 1) := by decide +kernel
theorem dL_law_834 : decode cL_law 834 = .ok (.iadd, 1) := by decide +kernel
theorem dL_law_835 : decode cL_law 835 = .ok (.iaload, 1) := by decide +kernel
theorem dL_law_836 : decode cL_law 836 = .ok (.aload_n 0, 1) := by decide +kernel
theorem dL_law_837 : decode cL_law 837 = .ok (.iload_n 3, 1) := by decide +kernel
theorem dL_law_838 : decode cL_law 838 = .ok (.iconst 2, 1) := by decide +kernel
theorem dL_law_839 : decode cL_law 839 = .ok (.iadd, 1) := by decide +kernel
theorem dL_law_840 : decode cL_law 840 = .ok (.iaload, 1) := by decide +kernel
theorem dL_law_841 : decode cL_law 841 = .ok (.aload_n 0, 1) := by decide +kernel
theorem dL_law_842 : decode cL_law 842 = .ok (.iload_n 3, 1) := by decide +kernel
theorem dL_law_843 : decode cL_law 843 = .ok (.iconst 3, 1) := by decide +kernel
theorem dL_law_844 : decode cL_law 844 = .ok (.iadd, 1) := by decide +kernel
theorem dL_law_845 : decode cL_law 845 = .ok (.iaload, 1) := by decide +kernel
theorem dL_law_846 : decode cL_law 846 = .ok (.invokevirtual 86, 3) := by decide +kernel
theorem dL_law_849 : decode cL_law 849 = .ok (.aload_n 2, 1) := by decide +kernel
theorem dL_law_850 : decode cL_law 850 = .ok (.aload_n 0, 1) := by decide +kernel
theorem dL_law_851 : decode cL_law 851 = .ok (.iload_n 3, 1) := by decide +kernel
theorem dL_law_852 : decode cL_law 852 = .ok (.iconst 1, 1) := by decide +kernel
theorem dL_law_853 : decode cL_law 853 = .ok (.iadd, 1) := by decide +kernel
theorem dL_law_854 : decode cL_law 854 = .ok (.iaload, 1) := by decide +kernel
theorem dL_law_855 : decode cL_law 855 = .ok (.aload_n 0, 1) := by decide +kernel
theorem dL_law_856 : decode cL_law 856 = .ok (.iload_n 3, 1) := by decide +kernel
theorem dL_law_857 : decode cL_law 857 = .ok (.iconst 2, 1) := by decide +kernel
theorem dL_law_858 : decode cL_law 858 = .ok (.iadd, 1) := by decide +kernel
theorem dL_law_859 : decode cL_law 859 = .ok (.iaload, 1) := by decide +kernel
theorem dL_law_860 : decode cL_law 860 = .ok (.aload_n 0, 1) := by decide +kernel
theorem dL_law_861 : decode cL_law 861 = .ok (.iload_n 3, 1) := by decide +kernel
theorem dL_law_862 : decode cL_law 862 = .ok (.iconst 3, 1) := by decide +kernel
theorem dL_law_863 : decode cL_law 863 = .ok (.iadd, 1) := by decide +kernel
theorem dL_law_864 : decode cL_law 864 = .ok (.iaload, 1) := by decide +kernel
theorem dL_law_865 : decode cL_law 865 = .ok (.invokevirtual 89, 3) := by decide +kernel
theorem dL_law_868 : decode cL_law 868 = .ok (.if_icmp .eq 383, 3) := by decide +kernel
theorem dL_law_871 : decode cL_law 871 = .ok (.iconst 0, 1) := by decide +kernel
theorem dL_law_872 : decode cL_law 872 = .ok (.ireturn, 1) := by decide +kernel
theorem dL_law_873 : decode cL_law 873 = .ok (.aload_n 1, 1) := by decide +kernel
theorem dL_law_874 : decode cL_law 874 = .ok (.aload_n 0, 1) := by decide +kernel
theorem dL_law_875 : decode cL_law 875 = .ok (.iload_n 3, 1) := by decide +kernel
theorem dL_law_876 : decode cL_law 876 = .ok (.iconst 1, 1) := by decide +kernel
theorem dL_law_877 : decode cL_law 877 = .ok (.iadd, 1) := by decide +kernel
theorem dL_law_878 : decode cL_law 878 = .ok (.iaload, 1) := by decide +kernel
theorem dL_law_879 : decode cL_law 879 = .ok (.aload_n 0, 1) := by decide +kernel
theorem dL_law_880 : decode cL_law 880 = .ok (.iload_n 3, 1) := by decide +kernel
theorem dL_law_881 : decode cL_law 881 = .ok (.iconst 2, 1) := by decide +kernel
theorem dL_law_882 : decode cL_law 882 = .ok (.iadd, 1) := by decide +kernel
theorem dL_law_883 : decode cL_law 883 = .ok (.iaload, 1) := by decide +kernel
theorem dL_law_884 : decode cL_law 884 = .ok (.aload_n 0, 1) := by decide +kernel
theorem dL_law_885 : decode cL_law 885 = .ok (.iload_n 3, 1) := by decide +kernel
theorem dL_law_886 : decode cL_law 886 = .ok (.iconst 3, 1) := by decide +kernel
theorem dL_law_887 : decode cL_law 887 = .ok (.iadd, 1) := by decide +kernel
theorem dL_law_888 : decode cL_law 888 = .ok (.iaload, 1) := by decide +kernel
theorem dL_law_889 : decode cL_law 889 = .ok (.aload_n 0, 1) := by decide +kernel
theorem dL_law_890 : decode cL_law 890 = .ok (.iload_n 3, 1) := by decide +kernel
theorem dL_law_891 : decode cL_law 891 = .ok (.iconst 4, 1) := by decide +kernel
theorem dL_law_892 : decode cL_law 892 = .ok (.iadd, 1) := by decide +kernel
theorem dL_law_893 : decode cL_law 893 = .ok (.iaload, 1) := by decide +kernel
theorem dL_law_894 : decode cL_law 894 = .ok (.invokevirtual 90, 3) := by decide +kernel
theorem dL_law_897 : decode cL_law 897 = .ok (.aload_n 2, 1) := by decide +kernel
theorem dL_law_898 : decode cL_law 898 = .ok (.aload_n 0, 1) := by decide +kernel
theorem dL_law_899 : decode cL_law 899 = .ok (.iload_n 3, 1) := by decide +kernel
theorem dL_law_900 : decode cL_law 900 = .ok (.iconst 1, 1) := by decide +kernel
theorem dL_law_901 : decode cL_law 901 = .ok (.iadd, 1) := by decide +kernel
theorem dL_law_902 : decode cL_law 902 = .ok (.iaload, 1) := by decide +kernel
theorem dL_law_903 : decode cL_law 903 = .ok (.aload_n 0, 1) := by decide +kernel
theorem dL_law_904 : decode cL_law 904 = .ok (.iload_n 3, 1) := by decide +kernel
theorem dL_law_905 : decode cL_law 905 = .ok (.iconst 2, 1) := by decide +kernel
theorem dL_law_906 : decode cL_law 906 = .ok (.iadd, 1) := by decide +kernel
theorem dL_law_907 : decode cL_law 907 = .ok (.iaload, 1) := by decide +kernel
theorem dL_law_908 : decode cL_law 908 = .ok (.aload_n 0, 1) := by decide +kernel
theorem dL_law_909 : decode cL_law 909 = .ok (.iload_n 3, 1) := by decide +kernel
theorem dL_law_910 : decode cL_law 910 = .ok (.iconst 3, 1) := by decide +kernel
theorem dL_law_911 : decode cL_law 911 = .ok (.iadd, 1) := by decide +kernel
theorem dL_law_912 : decode cL_law 912 = .ok (.iaload, 1) := by decide +kernel
theorem dL_law_913 : decode cL_law 913 = .ok (.aload_n 0, 1) := by decide +kernel
theorem dL_law_914 : decode cL_law 914 = .ok (.iload_n 3, 1) := by decide +kernel
theorem dL_law_915 : decode cL_law 915 = .ok (.iconst 4, 1) := by decide +kernel
theorem dL_law_916 : decode cL_law 916 = .ok (.iadd, 1) := by decide +kernel
theorem dL_law_917 : decode cL_law 917 = .ok (.iaload, 1) := by decide +kernel
theorem dL_law_918 : decode cL_law 918 = .ok (.invokevirtual 93, 3) := by decide +kernel
theorem dL_law_921 : decode cL_law 921 = .ok (.if_icmp .eq 330, 3) := by decide +kernel
theorem dL_law_924 : decode cL_law 924 = .ok (.iconst 0, 1) := by decide +kernel
theorem dL_law_925 : decode cL_law 925 = .ok (.ireturn, 1) := by decide +kernel
theorem dL_law_926 : decode cL_law 926 = .ok (.aload_n 1, 1) := by decide +kernel
theorem dL_law_927 : decode cL_law 927 = .ok (.aload_n 0, 1) := by decide +kernel
theorem dL_law_928 : decode cL_law 928 = .ok (.iload_n 3, 1) := by decide +kernel
theorem dL_law_929 : decode cL_law 929 = .ok (.iconst 1, 1) := by decide +kernel
theorem dL_law_930 : decode cL_law 930 = .ok (.iadd, 1) := by decide +kernel
theorem dL_law_931 : decode cL_law 931 = .ok (.iaload, 1) := by decide +kernel
theorem dL_law_932 : decode cL_law 932 = .ok (.aload_n 0, 1) := by decide +kernel
theorem dL_law_933 : decode cL_law 933 = .ok (.iload_n 3, 1) := by decide +kernel
theorem dL_law_934 : decode cL_law 934 = .ok (.iconst 2, 1) := by decide +kernel
theorem dL_law_935 : decode cL_law 935 = .ok (.iadd, 1) := by decide +kernel
theorem dL_law_936 : decode cL_law 936 = .ok (.iaload, 1) := by decide +kernel
theorem dL_law_937 : decode cL_law 937 = .ok (.aload_n 0, 1) := by decide +kernel
theorem dL_law_938 : decode cL_law 938 = .ok (.iload_n 3, 1) := by decide +kernel
theorem dL_law_939 : decode cL_law 939 = .ok (.iconst 3, 1) := by decide +kernel
theorem dL_law_940 : decode cL_law 940 = .ok (.iadd, 1) := by decide +kernel
theorem dL_law_941 : decode cL_law 941 = .ok (.iaload, 1) := by decide +kernel
theorem dL_law_942 : decode cL_law 942 = .ok (.aload_n 0, 1) := by decide +kernel
theorem dL_law_943 : decode cL_law 943 = .ok (.iload_n 3, 1) := by decide +kernel
theorem dL_law_944 : decode cL_law 944 = .ok (.iconst 4, 1) := by decide +kernel
theorem dL_law_945 : decode cL_law 945 = .ok (.iadd, 1) := by decide +kernel
theorem dL_law_946 : decode cL_law 946 = .ok (.iaload, 1) := by decide +kernel
theorem dL_law_947 : decode cL_law 947 = .ok (.invokevirtual 94, 3) := by decide +kernel
theorem dL_law_950 : decode cL_law 950 = .ok (.aload_n 2, 1) := by decide +kernel
theorem dL_law_951 : decode cL_law 951 = .ok (.aload_n 0, 1) := by decide +kernel
theorem dL_law_952 : decode cL_law 952 = .ok (.iload_n 3, 1) := by decide +kernel
theorem dL_law_953 : decode cL_law 953 = .ok (.iconst 1, 1) := by decide +kernel
theorem dL_law_954 : decode cL_law 954 = .ok (.iadd, 1) := by decide +kernel
theorem dL_law_955 : decode cL_law 955 = .ok (.iaload, 1) := by decide +kernel
theorem dL_law_956 : decode cL_law 956 = .ok (.aload_n 0, 1) := by decide +kernel
theorem dL_law_957 : decode cL_law 957 = .ok (.iload_n 3, 1) := by decide +kernel
theorem dL_law_958 : decode cL_law 958 = .ok (.iconst 2, 1) := by decide +kernel
theorem dL_law_959 : decode cL_law 959 = .ok (.iadd, 1) := by decide +kernel
theorem dL_law_960 : decode cL_law 960 = .ok (.iaload, 1) := by decide +kernel
theorem dL_law_961 : decode cL_law 961 = .ok (.aload_n 0, 1) := by decide +kernel
theorem dL_law_962 : decode cL_law 962 = .ok (.iload_n 3, 1) := by decide +kernel
theorem dL_law_963 : decode cL_law 963 = .ok (.iconst 3, 1) := by decide +kernel
theorem dL_law_964 : decode cL_law 964 = .ok (.iadd, 1) := by decide +kernel
theorem dL_law_965 : decode cL_law 965 = .ok (.iaload, 1) := by decide +kernel
theorem dL_law_966 : decode cL_law 966 = .ok (.aload_n 0, 1) := by decide +kernel
theorem dL_law_967 : decode cL_law 967 = .ok (.iload_n 3, 1) := by decide +kernel
theorem dL_law_968 : decode cL_law 968 = .ok (.iconst 4, 1) := by decide +kernel
theorem dL_law_969 : decode cL_law 969 = .ok (.iadd, 1) := by decide +kernel
theorem dL_law_970 : decode cL_law 970 = .ok (.iaload, 1) := by decide +kernel
theorem dL_law_971 : decode cL_law 971 = .ok (.invokevirtual 97, 3) := by decide +kernel
theorem dL_law_974 : decode cL_law 974 = .ok (.if_icmp .eq 277, 3) := by decide +kernel
theorem dL_law_977 : decode cL_law 977 = .ok (.iconst 0, 1) := by decide +kernel
theorem dL_law_978 : decode cL_law 978 = .ok (.ireturn, 1) := by decide +kernel
theorem dL_law_979 : decode cL_law 979 = .ok (.aload_n 1, 1) := by decide +kernel
theorem dL_law_980 : decode cL_law 980 = .ok (.aload_n 0, 1) := by decide +kernel
theorem dL_law_981 : decode cL_law 981 = .ok (.iload_n 3, 1) := by decide +kernel
theorem dL_law_982 : decode cL_law 982 = .ok (.iconst 1, 1) := by decide +kernel
theorem dL_law_983 : decode cL_law 983 = .ok (.iadd, 1) := by decide +kernel
theorem dL_law_984 : decode cL_law 984 = .ok (.iaload, 1) := by decide +kernel
theorem dL_law_985 : decode cL_law 985 = .ok (.aload_n 0, 1) := by decide +kernel
theorem dL_law_986 : decode cL_law 986 = .ok (.iload_n 3, 1) := by decide +kernel
theorem dL_law_987 : decode cL_law 987 = .ok (.iconst 2, 1) := by decide +kernel
theorem dL_law_988 : decode cL_law 988 = .ok (.iadd, 1) := by decide +kernel
theorem dL_law_989 : decode cL_law 989 = .ok (.iaload, 1) := by decide +kernel
theorem dL_law_990 : decode cL_law 990 = .ok (.invokevirtual 98, 3) := by decide +kernel
theorem dL_law_993 : decode cL_law 993 = .ok (.aload_n 2, 1) := by decide +kernel
theorem dL_law_994 : decode cL_law 994 = .ok (.aload_n 0, 1) := by decide +kernel
theorem dL_law_995 : decode cL_law 995 = .ok (.iload_n 3, 1) := by decide +kernel
theorem dL_law_996 : decode cL_law 996 = .ok (.iconst 1, 1) := by decide +kernel
theorem dL_law_997 : decode cL_law 997 = .ok (.iadd, 1) := by decide +kernel
theorem dL_law_998 : decode cL_law 998 = .ok (.iaload, 1) := by decide +kernel
theorem dL_law_999 : decode cL_law 999 = .ok (.aload_n 0, 1) := by decide +kernel
theorem dL_law_1000 : decode cL_law 1000 = .ok (.iload_n 3, 1) := by decide +kernel
theorem dL_law_1001 : decode cL_law 1001 = .ok (.iconst 2, 1) := by decide +kernel
theorem dL_law_1002 : decode cL_law 1002 = .ok (.iadd, 1) := by decide +kernel
theorem dL_law_1003 : decode cL_law 1003 = .ok (.iaload, 1) := by decide +kernel
theorem dL_law_1004 : decode cL_law 1004 = .ok (.invokevirtual 101, 3) := by decide +kernel
theorem dL_law_1007 : decode cL_law 1007 = .ok (.if_icmp .eq 244, 3) := by decide +kernel
theorem dL_law_1010 : decode cL_law 1010 = .ok (.iconst 0, 1) := by decide +kernel
theorem dL_law_1011 : decode cL_law 1011 = .ok (.ireturn, 1) := by decide +kernel
theorem dL_law_1012 : decode cL_law 1012 = .ok (.aload_n 1, 1) := by decide +kernel
theorem dL_law_1013 : decode cL_law 1013 = .ok (.aload_n 0, 1) := by decide +kernel
theorem dL_law_1014 : decode cL_law 1014 = .ok (.iload_n 3, 1) := by decide +kernel
theorem dL_law_1015 : decode cL_law 1015 = .ok (.iconst 1, 1) := by decide +kernel
theorem dL_law_1016 : decode cL_law 1016 = .ok (.iadd, 1) := by decide +kernel
theorem dL_law_1017 : decode cL_law 1017 = .ok (.iaload, 1) := by decide +kernel
theorem dL_law_1018 : decode cL_law 1018 = .ok (.aload_n 0, 1) := by decide +kernel
theorem dL_law_1019 : decode cL_law 1019 = .ok (.iload_n 3, 1) := by decide +kernel
theorem dL_law_1020 : decode cL_law 1020 = .ok (.iconst 2, 1) := by decide +kernel
theorem dL_law_1021 : decode cL_law 1021 = .ok (.iadd, 1) := by decide +kernel
theorem dL_law_1022 : decode cL_law 1022 = .ok (.iaload, 1) := by decide +kernel
theorem dL_law_1023 : decode cL_law 1023 = .ok (.aload_n 0, 1) := by decide +kernel
theorem dL_law_1024 : decode cL_law 1024 = .ok (.iload_n 3, 1) := by decide +kernel
theorem dL_law_1025 : decode cL_law 1025 = .ok (.iconst 3, 1) := by decide +kernel
theorem dL_law_1026 : decode cL_law 1026 = .ok (.iadd, 1) := by decide +kernel
theorem dL_law_1027 : decode cL_law 1027 = .ok (.iaload, 1) := by decide +kernel
theorem dL_law_1028 : decode cL_law 1028 = .ok (.aload_n 0, 1) := by decide +kernel
theorem dL_law_1029 : decode cL_law 1029 = .ok (.iload_n 3, 1) := by decide +kernel
theorem dL_law_1030 : decode cL_law 1030 = .ok (.iconst 4, 1) := by decide +kernel
theorem dL_law_1031 : decode cL_law 1031 = .ok (.iadd, 1) := by decide +kernel
theorem dL_law_1032 : decode cL_law 1032 = .ok (.iaload, 1) := by decide +kernel
theorem dL_law_1033 : decode cL_law 1033 = .ok (.invokevirtual 102, 3) := by decide +kernel
theorem dL_law_1036 : decode cL_law 1036 = .ok (.aload_n 2, 1) := by decide +kernel
theorem dL_law_1037 : decode cL_law 1037 = .ok (.aload_n 0, 1) := by decide +kernel
theorem dL_law_1038 : decode cL_law 1038 = .ok (.iload_n 3, 1) := by decide +kernel
theorem dL_law_1039 : decode cL_law 1039 = .ok (.iconst 1, 1) := by decide +kernel
theorem dL_law_1040 : decode cL_law 1040 = .ok (.iadd, 1) := by decide +kernel
theorem dL_law_1041 : decode cL_law 1041 = .ok (.iaload, 1) := by decide +kernel
theorem dL_law_1042 : decode cL_law 1042 = .ok (.aload_n 0, 1) := by decide +kernel
theorem dL_law_1043 : decode cL_law 1043 = .ok (.iload_n 3, 1) := by decide +kernel
theorem dL_law_1044 : decode cL_law 1044 = .ok (.iconst 2, 1) := by decide +kernel
theorem dL_law_1045 : decode cL_law 1045 = .ok (.iadd, 1) := by decide +kernel
theorem dL_law_1046 : decode cL_law 1046 = .ok (.iaload, 1) := by decide +kernel
theorem dL_law_1047 : decode cL_law 1047 = .ok (.aload_n 0, 1) := by decide +kernel
theorem dL_law_1048 : decode cL_law 1048 = .ok (.iload_n 3, 1) := by decide +kernel
theorem dL_law_1049 : decode cL_law 1049 = .ok (.iconst 3, 1) := by decide +kernel
theorem dL_law_1050 : decode cL_law 1050 = .ok (.iadd, 1) := by decide +kernel
theorem dL_law_1051 : decode cL_law 1051 = .ok (.iaload, 1) := by decide +kernel
theorem dL_law_1052 : decode cL_law 1052 = .ok (.aload_n 0, 1) := by decide +kernel
theorem dL_law_1053 : decode cL_law 1053 = .ok (.iload_n 3, 1) := by decide +kernel
theorem dL_law_1054 : decode cL_law 1054 = .ok (.iconst 4, 1) := by decide +kernel
theorem dL_law_1055 : decode cL_law 1055 = .ok (.iadd, 1) := by decide +kernel
theorem dL_law_1056 : decode cL_law 1056 = .ok (.iaload, 1) := by decide +kernel
theorem dL_law_1057 : decode cL_law 1057 = .ok (.invokevirtual 105, 3) := by decide +kernel
theorem dL_law_1060 : decode cL_law 1060 = .ok (.if_icmp .eq 191, 3) := by decide +kernel
theorem dL_law_1063 : decode cL_law 1063 = .ok (.iconst 0, 1) := by decide +kernel
theorem dL_law_1064 : decode cL_law 1064 = .ok (.ireturn, 1) := by decide +kernel
theorem dL_law_1065 : decode cL_law 1065 = .ok (.aload_n 1, 1) := by decide +kernel
theorem dL_law_1066 : decode cL_law 1066 = .ok (.aload_n 0, 1) := by decide +kernel
theorem dL_law_1067 : decode cL_law 1067 = .ok (.iload_n 3, 1) := by decide +kernel
theorem dL_law_1068 : decode cL_law 1068 = .ok (.iconst 1, 1) := by decide +kernel
theorem dL_law_1069 : decode cL_law 1069 = .ok (.iadd, 1) := by decide +kernel
theorem dL_law_1070 : decode cL_law 1070 = .ok (.iaload, 1) := by decide +kernel
theorem dL_law_1071 : decode cL_law 1071 = .ok (.aload_n 0, 1) := by decide +kernel
theorem dL_law_1072 : decode cL_law 1072 = .ok (.iload_n 3, 1) := by decide +kernel
theorem dL_law_1073 : decode cL_law 1073 = .ok (.iconst 2, 1) := by decide +kernel
theorem dL_law_1074 : decode cL_law 1074 = .ok (.iadd, 1) := by decide +kernel
theorem dL_law_1075 : decode cL_law 1075 = .ok (.iaload, 1) := by decide +kernel
theorem dL_law_1076 : decode cL_law 1076 = .ok (.aload_n 0, 1) := by decide +kernel
theorem dL_law_1077 : decode cL_law 1077 = .ok (.iload_n 3, 1) := by decide +kernel
theorem dL_law_1078 : decode cL_law 1078 = .ok (.iconst 3, 1) := by decide +kernel
theorem dL_law_1079 : decode cL_law 1079 = .ok (.iadd, 1) := by decide +kernel
theorem dL_law_1080 : decode cL_law 1080 = .ok (.iaload, 1) := by decide +kernel
theorem dL_law_1081 : decode cL_law 1081 = .ok (.aload_n 0, 1) := by decide +kernel
theorem dL_law_1082 : decode cL_law 1082 = .ok (.iload_n 3, 1) := by decide +kernel
theorem dL_law_1083 : decode cL_law 1083 = .ok (.iconst 4, 1) := by decide +kernel
theorem dL_law_1084 : decode cL_law 1084 = .ok (.iadd, 1) := by decide +kernel
theorem dL_law_1085 : decode cL_law 1085 = .ok (.iaload, 1) := by decide +kernel
theorem dL_law_1086 : decode cL_law 1086 = .ok (.aload_n 0, 1) := by decide +kernel
theorem dL_law_1087 : decode cL_law 1087 = .ok (.iload_n 3, 1) := by decide +kernel
theorem dL_law_1088 : decode cL_law 1088 = .ok (.iconst 5, 1) := by decide +kernel
theorem dL_law_1089 : decode cL_law 1089 = .ok (.iadd, 1) := by decide +kernel
theorem dL_law_1090 : decode cL_law 1090 = .ok (.iaload, 1) := by decide +kernel
theorem dL_law_1091 : decode cL_law 1091 = .ok (.invokevirtual 106, 3) := by decide +kernel
theorem dL_law_1094 : decode cL_law 1094 = .ok (.aload_n 2, 1) := by decide +kernel
theorem dL_law_1095 : decode cL_law 1095 = .ok (.aload_n 0, 1) := by decide +kernel
theorem dL_law_1096 : decode cL_law 1096 = .ok (.iload_n 3, 1) := by decide +kernel
theorem dL_law_1097 : decode cL_law 1097 = .ok (.iconst 1, 1) := by decide +kernel
theorem dL_law_1098 : decode cL_law 1098 = .ok (.iadd, 1) := by decide +kernel
theorem dL_law_1099 : decode cL_law 1099 = .ok (.iaload, 1) := by decide +kernel
theorem dL_law_1100 : decode cL_law 1100 = .ok (.aload_n 0, 1) := by decide +kernel
theorem dL_law_1101 : decode cL_law 1101 = .ok (.iload_n 3, 1) := by decide +kernel
theorem dL_law_1102 : decode cL_law 1102 = .ok (.iconst 2, 1) := by decide +kernel
theorem dL_law_1103 : decode cL_law 1103 = .ok (.iadd, 1) := by decide +kernel
theorem dL_law_1104 : decode cL_law 1104 = .ok (.iaload, 1) := by decide +kernel
theorem dL_law_1105 : decode cL_law 1105 = .ok (.aload_n 0, 1) := by decide +kernel
theorem dL_law_1106 : decode cL_law 1106 = .ok (.iload_n 3, 1) := by decide +kernel
theorem dL_law_1107 : decode cL_law 1107 = .ok (.iconst 3, 1) := by decide +kernel
theorem dL_law_1108 : decode cL_law 1108 = .ok (.iadd, 1) := by decide +kernel
theorem dL_law_1109 : decode cL_law 1109 = .ok (.iaload, 1) := by decide +kernel
theorem dL_law_1110 : decode cL_law 1110 = .ok (.aload_n 0, 1) := by decide +kernel
theorem dL_law_1111 : decode cL_law 1111 = .ok (.iload_n 3, 1) := by decide +kernel
theorem dL_law_1112 : decode cL_law 1112 = .ok (.iconst 4, 1) := by decide +kernel
theorem dL_law_1113 : decode cL_law 1113 = .ok (.iadd, 1) := by decide +kernel
theorem dL_law_1114 : decode cL_law 1114 = .ok (.iaload, 1) := by decide +kernel
theorem dL_law_1115 : decode cL_law 1115 = .ok (.aload_n 0, 1) := by decide +kernel
theorem dL_law_1116 : decode cL_law 1116 = .ok (.iload_n 3, 1) := by decide +kernel
theorem dL_law_1117 : decode cL_law 1117 = .ok (.iconst 5, 1) := by decide +kernel
theorem dL_law_1118 : decode cL_law 1118 = .ok (.iadd, 1) := by decide +kernel
theorem dL_law_1119 : decode cL_law 1119 = .ok (.iaload, 1) := by decide +kernel
theorem dL_law_1120 : decode cL_law 1120 = .ok (.invokevirtual 109, 3) := by decide +kernel
theorem dL_law_1123 : decode cL_law 1123 = .ok (.if_icmp .eq 128, 3) := by decide +kernel
theorem dL_law_1126 : decode cL_law 1126 = .ok (.iconst 0, 1) := by decide +kernel
theorem dL_law_1127 : decode cL_law 1127 = .ok (.ireturn, 1) := by decide +kernel
theorem dL_law_1128 : decode cL_law 1128 = .ok (.aload_n 1, 1) := by decide +kernel
theorem dL_law_1129 : decode cL_law 1129 = .ok (.aload_n 0, 1) := by decide +kernel
theorem dL_law_1130 : decode cL_law 1130 = .ok (.iload_n 3, 1) := by decide +kernel
theorem dL_law_1131 : decode cL_law 1131 = .ok (.iconst 1, 1) := by decide +kernel
theorem dL_law_1132 : decode cL_law 1132 = .ok (.iadd, 1) := by decide +kernel
theorem dL_law_1133 : decode cL_law 1133 = .ok (.iaload, 1) := by decide +kernel
theorem dL_law_1134 : decode cL_law 1134 = .ok (.aload_n 0, 1) := by decide +kernel
theorem dL_law_1135 : decode cL_law 1135 = .ok (.iload_n 3, 1) := by decide +kernel
theorem dL_law_1136 : decode cL_law 1136 = .ok (.iconst 2, 1) := by decide +kernel
theorem dL_law_1137 : decode cL_law 1137 = .ok (.iadd, 1) := by decide +kernel
theorem dL_law_1138 : decode cL_law 1138 = .ok (.iaload, 1) := by decide +kernel
theorem dL_law_1139 : decode cL_law 1139 = .ok (.aload_n 0, 1) := by decide +kernel
theorem dL_law_1140 : decode cL_law 1140 = .ok (.iload_n 3, 1) := by decide +kernel
theorem dL_law_1141 : decode cL_law 1141 = .ok (.iconst 3, 1) := by decide +kernel
theorem dL_law_1142 : decode cL_law 1142 = .ok (.iadd, 1) := by decide +kernel
theorem dL_law_1143 : decode cL_law 1143 = .ok (.iaload, 1) := by decide +kernel
theorem dL_law_1144 : decode cL_law 1144 = .ok (.invokevirtual 110, 3) := by decide +kernel
theorem dL_law_1147 : decode cL_law 1147 = .ok (.aload_n 2, 1) := by decide +kernel
theorem dL_law_1148 : decode cL_law 1148 = .ok (.aload_n 0, 1) := by decide +kernel
theorem dL_law_1149 : decode cL_law 1149 = .ok (.iload_n 3, 1) := by decide +kernel
theorem dL_law_1150 : decode cL_law 1150 = .ok (.iconst 1, 1) := by decide +kernel
theorem dL_law_1151 : decode cL_law 1151 = .ok (.iadd, 1) := by decide +kernel
theorem dL_law_1152 : decode cL_law 1152 = .ok (.iaload, 1) := by decide +kernel
theorem dL_law_1153 : decode cL_law 1153 = .ok (.aload_n 0, 1) := by decide +kernel
theorem dL_law_1154 : decode cL_law 1154 = .ok (.iload_n 3, 1) := by decide +kernel
theorem dL_law_1155 : decode cL_law 1155 = .ok (.iconst 2, 1) := by decide +kernel
theorem dL_law_1156 : decode cL_law 1156 = .ok (.iadd, 1) := by decide +kernel
theorem dL_law_1157 : decode cL_law 1157 = .ok (.iaload, 1) := by decide +kernel
theorem dL_law_1158 : decode cL_law 1158 = .ok (.aload_n 0, 1) := by decide +kernel
theorem dL_law_1159 : decode cL_law 1159 = .ok (.iload_n 3, 1) := by decide +kernel
theorem dL_law_1160 : decode cL_law 1160 = .ok (.iconst 3, 1) := by decide +kernel
theorem dL_law_1161 : decode cL_law 1161 = .ok (.iadd, 1) := by decide +kernel
theorem dL_law_1162 : decode cL_law 1162 = .ok (.iaload, 1) := by decide +kernel
theorem dL_law_1163 : decode cL_law 1163 = .ok (.invokevirtual 113, 3) := by decide +kernel
theorem dL_law_1166 : decode cL_law 1166 = .ok (.if_icmp .eq 85, 3) := by decide +kernel
theorem dL_law_1169 : decode cL_law 1169 = .ok (.iconst 0, 1) := by decide +kernel
theorem dL_law_1170 : decode cL_law 1170 = .ok (.ireturn, 1) := by decide +kernel
theorem dL_law_1171 : decode cL_law 1171 = .ok (.aload_n 1, 1) := by decide +kernel
theorem dL_law_1172 : decode cL_law 1172 = .ok (.aload_n 0, 1) := by decide +kernel
theorem dL_law_1173 : decode cL_law 1173 = .ok (.iload_n 3, 1) := by decide +kernel
theorem dL_law_1174 : decode cL_law 1174 = .ok (.iconst 1, 1) := by decide +kernel
theorem dL_law_1175 : decode cL_law 1175 = .ok (.iadd, 1) := by decide +kernel
theorem dL_law_1176 : decode cL_law 1176 = .ok (.iaload, 1) := by decide +kernel
theorem dL_law_1177 : decode cL_law 1177 = .ok (.aload_n 0, 1) := by decide +kernel
theorem dL_law_1178 : decode cL_law 1178 = .ok (.iload_n 3, 1) := by decide +kernel
theorem dL_law_1179 : decode cL_law 1179 = .ok (.iconst 2, 1) := by decide +kernel
theorem dL_law_1180 : decode cL_law 1180 = .ok (.iadd, 1) := by decide +kernel
theorem dL_law_1181 : decode cL_law 1181 = .ok (.iaload, 1) := by decide +kernel
theorem dL_law_1182 : decode cL_law 1182 = .ok (.invokevirtual 114, 3) := by decide +kernel
theorem dL_law_1185 : decode cL_law 1185 = .ok (.aload_n 2, 1) := by decide +kernel
theorem dL_law_1186 : decode cL_law 1186 = .ok (.aload_n 0, 1) := by decide +kernel
theorem dL_law_1187 : decode cL_law 1187 = .ok (.iload_n 3, 1) := by decide +kernel
theorem dL_law_1188 : decode cL_law 1188 = .ok (.iconst 1, 1) := by decide +kernel
theorem dL_law_1189 : decode cL_law 1189 = .ok (.iadd, 1) := by decide +kernel
theorem dL_law_1190 : decode cL_law 1190 = .ok (.iaload, 1) := by decide +kernel
theorem dL_law_1191 : decode cL_law 1191 = .ok (.aload_n 0, 1) := by decide +kernel
theorem dL_law_1192 : decode cL_law 1192 = .ok (.iload_n 3, 1) := by decide +kernel
theorem dL_law_1193 : decode cL_law 1193 = .ok (.iconst 2, 1) := by decide +kernel
theorem dL_law_1194 : decode cL_law 1194 = .ok (.iadd, 1) := by decide +kernel
theorem dL_law_1195 : decode cL_law 1195 = .ok (.iaload, 1) := by decide +kernel
theorem dL_law_1196 : decode cL_law 1196 = .ok (.invokevirtual 117, 3) := by decide +kernel
theorem dL_law_1199 : decode cL_law 1199 = .ok (.if_icmp .eq 52, 3) := by decide +kernel
theorem dL_law_1202 : decode cL_law 1202 = .ok (.iconst 0, 1) := by decide +kernel
theorem dL_law_1203 : decode cL_law 1203 = .ok (.ireturn, 1) := by decide +kernel
theorem dL_law_1204 : decode cL_law 1204 = .ok (.aload_n 1, 1) := by decide +kernel
theorem dL_law_1205 : decode cL_law 1205 = .ok (.aload_n 0, 1) := by decide +kernel
theorem dL_law_1206 : decode cL_law 1206 = .ok (.iload_n 3, 1) := by decide +kernel
theorem dL_law_1207 : decode cL_law 1207 = .ok (.iconst 1, 1) := by decide +kernel
theorem dL_law_1208 : decode cL_law 1208 = .ok (.iadd, 1) := by decide +kernel
theorem dL_law_1209 : decode cL_law 1209 = .ok (.iaload, 1) := by decide +kernel
theorem dL_law_1210 : decode cL_law 1210 = .ok (.invokevirtual 118, 3) := by decide +kernel
theorem dL_law_1213 : decode cL_law 1213 = .ok (.aload_n 2, 1) := by decide +kernel
theorem dL_law_1214 : decode cL_law 1214 = .ok (.aload_n 0, 1) := by decide +kernel
theorem dL_law_1215 : decode cL_law 1215 = .ok (.iload_n 3, 1) := by decide +kernel
theorem dL_law_1216 : decode cL_law 1216 = .ok (.iconst 1, 1) := by decide +kernel
theorem dL_law_1217 : decode cL_law 1217 = .ok (.iadd, 1) := by decide +kernel
theorem dL_law_1218 : decode cL_law 1218 = .ok (.iaload, 1) := by decide +kernel
theorem dL_law_1219 : decode cL_law 1219 = .ok (.invokevirtual 122, 3) := by decide +kernel
theorem dL_law_1222 : decode cL_law 1222 = .ok (.lcmp, 1) := by decide +kernel
theorem dL_law_1223 : decode cL_law 1223 = .ok (.ifCond .eq 28, 3) := by decide +kernel
theorem dL_law_1226 : decode cL_law 1226 = .ok (.iconst 0, 1) := by decide +kernel
theorem dL_law_1227 : decode cL_law 1227 = .ok (.ireturn, 1) := by decide +kernel
theorem dL_law_1228 : decode cL_law 1228 = .ok (.aload_n 1, 1) := by decide +kernel
theorem dL_law_1229 : decode cL_law 1229 = .ok (.aload_n 0, 1) := by decide +kernel
theorem dL_law_1230 : decode cL_law 1230 = .ok (.iload_n 3, 1) := by decide +kernel
theorem dL_law_1231 : decode cL_law 1231 = .ok (.iconst 1, 1) := by decide +kernel
theorem dL_law_1232 : decode cL_law 1232 = .ok (.iadd, 1) := by decide +kernel
theorem dL_law_1233 : decode cL_law 1233 = .ok (.iaload, 1) := by decide +kernel
theorem dL_law_1234 : decode cL_law 1234 = .ok (.invokevirtual 123, 3) := by decide +kernel
theorem dL_law_1237 : decode cL_law 1237 = .ok (.aload_n 2, 1) := by decide +kernel
theorem dL_law_1238 : decode cL_law 1238 = .ok (.aload_n 0, 1) := by decide +kernel
theorem dL_law_1239 : decode cL_law 1239 = .ok (.iload_n 3, 1) := by decide +kernel
theorem dL_law_1240 : decode cL_law 1240 = .ok (.iconst 1, 1) := by decide +kernel
theorem dL_law_1241 : decode cL_law 1241 = .ok (.iadd, 1) := by decide +kernel
theorem dL_law_1242 : decode cL_law 1242 = .ok (.iaload, 1) := by decide +kernel
theorem dL_law_1243 : decode cL_law 1243 = .ok (.invokevirtual 126, 3) := by decide +kernel
theorem dL_law_1246 : decode cL_law 1246 = .ok (.if_icmp .eq 5, 3) := by decide +kernel
theorem dL_law_1249 : decode cL_law 1249 = .ok (.iconst 0, 1) := by decide +kernel
theorem dL_law_1250 : decode cL_law 1250 = .ok (.ireturn, 1) := by decide +kernel
theorem dL_law_1251 : decode cL_law 1251 = .ok (.iinc 3 6, 3) := by decide +kernel
theorem dL_law_1254 : decode cL_law 1254 = .ok (.goto (-1236), 3) := by decide +kernel
theorem dL_law_1257 : decode cL_law 1257 = .ok (.iconst 1, 1) := by decide +kernel
theorem dL_law_1258 : decode cL_law 1258 = .ok (.ireturn, 1) := by decide +kernel
end
section
-- THE FRAME: the cells of the world, and all that is new
def gA (δ : GD) (sz : Nat) : Nat → Prop := fun q => (∃ k : Nat, k < 102 ∧ q = δ.2.2.1 k) ∨ sz ≤ q
def gDj (δ : GD) : Prop := ∀ i j : Nat, i < 102 → j < 102 → δ.2.2.1 i = δ.2.2.1 j → i = j
theorem gA_new {δ : GD} {sz q : Nat} (h : sz ≤ q) : gA δ sz q := Or.inr h
theorem gA_mono {δ : GD} {sz sz' q : Nat} (h : sz ≤ sz') (hq : gA δ sz' q) : gA δ sz q := hq.elim Or.inl (fun z => Or.inr (Nat.le_trans h z))
theorem gDj_D {δ : GD} {σ : GS} {sz : Nat} (h : gDj δ) : va_D (gA δ sz) (wG δ σ) := by
  refine ⟨fun i j x y hi hj e => ?_, fun k q hk => ?_⟩
  · obtain ⟨h1, rfl⟩ := wG_inv hi
    obtain ⟨h2, rfl⟩ := wG_inv hj
    exact h i j h1 h2 e
  · obtain ⟨h1, rfl⟩ := wG_inv hk
    exact Or.inl ⟨k, h1, rfl⟩
-- what stands outside: the two constant arrays, and the links of nest mates
def gStep : Nat → Value := fun j => .int (if j = 0 then 169 else if j = 1 then 13 else if j = 2 then 1 else 0)
def gStepO : Nat → Value := fun j => .int (if j = 0 then 36 else if j = 1 then 6 else if j = 2 then 1 else 0)
def gStat (δ : GD) (U : State) (H : Heap) (sz : Nat) : Prop :=
  (va_Z "GrowingUrns$After" "STEPS" "[I" (.ref δ.2.2.2.1) (gA δ sz) U H ∧ va_T .int δ.2.2.2.1 4 gStep (gA δ sz) U H) ∧ (va_Z "GrowingUrns$Orders" "STEPS" "[I" (.ref δ.2.2.2.2) (gA δ sz) U H ∧ va_T .int δ.2.2.2.2 4 gStepO (gA δ sz) U H)
def gNest (U : State) : Prop := va_Nw (.methodLinkNest RX5 43 yX8_common RX8) U ∧ va_Nw (.methodLinkNest RX1 19 yX8_common RX8) U
theorem gStat.moved {δ : GD} {u U : State} {H : Heap} {sz : Nat} (hvm : u.vm.Alike U.vm) (h : gStat δ u H sz) : gStat δ U H sz :=
  ⟨⟨h.1.1.moved hvm, h.1.2.moved hvm⟩, ⟨h.2.1.moved hvm, h.2.2.moved hvm⟩⟩
theorem gStat.kept {δ : GD} {U : State} {H H1 : Heap} {sz : Nat} (h : gStat δ U H sz) (hq : ∀ a : Nat, a < H.size → ¬ gA δ sz a → H1[a]? = H[a]?) : gStat δ U H1 sz :=
  ⟨⟨h.1.1.kept hq, h.1.2.kept hq⟩, ⟨h.2.1.kept hq, h.2.2.kept hq⟩⟩
theorem gStat.mono {δ : GD} {U : State} {H : Heap} {sz sz' : Nat} (h : gStat δ U H sz) (hs : sz ≤ sz') : gStat δ U H sz' :=
  ⟨⟨h.1.1.narrow (fun _ => gA_mono hs), h.1.2.narrow (fun _ => gA_mono hs)⟩, ⟨h.2.1.narrow (fun _ => gA_mono hs), h.2.2.narrow (fun _ => gA_mono hs)⟩⟩
theorem gNest.warm {s U : State} (hW : s.WarmedH U.vm) (h : gNest s) : gNest U := ⟨va_Nw.warmM hW h.1, va_Nw.warmM hW h.2⟩
theorem gNest.calling {U : State} {g : JFrame} {mk : MethodId} {a : Array Value} (h : gNest U) : gNest (U.calling g mk a) := ⟨va_Nw.same rfl rfl h.1, va_Nw.same rfl rfl h.2⟩
-- LOCALS as a list, a place each
def gV (ls : Array Slot) (lv : List (Option Value)) : Prop := ls.size = lv.length ∧ lv_wf ls ∧ ∀ (i : Nat) (v : Value), lv[i]? = some (some v) → ls[i]? = some (.val v)
def gVl (lv : List (Option Value)) : List (Nat × Value) := (List.range lv.length).filterMap (fun i => (lv[i]?.join).map (fun v => (i, v)))
theorem gVl_mem {lv : List (Option Value)} {i : Nat} {v : Value} : (i, v) ∈ gVl lv ↔ lv[i]? = some (some v) := by
  unfold gVl
  rw [List.mem_filterMap]
  constructor
  · rintro ⟨j, hj, e⟩
    cases h : lv[j]? with
    | none => rw [h] at e; cases e
    | some o =>
      cases o with
      | none => rw [h] at e; cases e
      | some w =>
        rw [h] at e
        cases e
        exact h
  · intro h
    exact ⟨i, List.mem_range.mpr (List.getElem?_eq_some_iff.mp h).1, by rw [h]; rfl⟩
theorem gV.has {ls : Array Slot} {lv : List (Option Value)} (h : gV ls lv) : lv_has ls lv.length (gVl lv) := ⟨h.1, h.2.1, fun q hq => h.2.2 q.1 q.2 (gVl_mem.mp hq)⟩
theorem gV.of {ls : Array Slot} {lv : List (Option Value)} {n : Nat} {l : List (Nat × Value)} (h : lv_has ls n l) (hn : lv.length = n) (hl : ∀ (i : Nat) (v : Value), lv[i]? = some (some v) → (i, v) ∈ l) : gV ls lv :=
  ⟨h.1.trans hn.symm, h.2.1, fun i v hv => h.2.2 (i, v) (hl i v hv)⟩
/-- storing: the slot, and the next one if it takes two; a long that is cut is forgotten -/
def gSt1 (lv : List (Option Value)) (i : Nat) (v : Value) : List (Option Value) := lv.set i (some v)
def gSt2 (lv : List (Option Value)) (i : Nat) (v : Value) : List (Option Value) := (lv.set (i + 1) none).set i (some v)
def gCutOk (lv : List (Option Value)) (i : Nat) : Prop := ∀ (j : Nat) (v : Value), lv[j]? = some (some v) → v.category = 2 → j + 1 ≠ i
def gCutB (lv : List (Option Value)) (i : Nat) : Bool := match i with
  | 0 => true
  | j + 1 => match lv[j]? with
    | some (some (.long _)) => false
    | some (some (.double _)) => false
    | _ => true
theorem gCut_of {lv : List (Option Value)} {i : Nat} (h : gCutB lv i = true) : gCutOk lv i := by
  intro j v hv hc e
  subst e
  simp only [gCutB, hv] at h
  cases v <;> simp_all [Value.category]
theorem gV.st1 {ls ls' : Array Slot} {lv : List (Option Value)} {i : Nat} {v : Value} (hc : gCutB lv i = true) (hi : i < lv.length)
    (h : lv_has ls' lv.length ((i, v) :: (gVl lv).filter (fun q => !(q.1 == i) && !(q.1 + 1 == i && q.2.category == 2)))) : gV ls' (gSt1 lv i v) := by
  refine gV.of h (by simp [gSt1]) (fun j w hw => ?_)
  unfold gSt1 at hw
  by_cases e : j = i
  · subst e
    rw [List.getElem?_set_self hi] at hw
    cases hw
    exact List.mem_cons_self
  · rw [List.getElem?_set_ne (Ne.symm e)] at hw
    refine List.mem_cons_of_mem _ (List.mem_filter.mpr ⟨gVl_mem.mpr hw, ?_⟩)
    have hk := gCut_of hc j w hw
    simp only [Bool.and_eq_true, Bool.not_eq_true', beq_eq_false_iff_ne, ne_eq, Bool.and_eq_false_iff]
    refine ⟨e, ?_⟩
    by_cases h2 : w.category = 2
    · exact Or.inl (hk h2)
    · exact Or.inr h2
theorem gV.st2 {ls ls' : Array Slot} {lv : List (Option Value)} {i : Nat} {v : Value} (hc : gCutB lv i = true) (hi : i + 1 < lv.length)
    (h : lv_has ls' lv.length ((i, v) :: (gVl lv).filter (fun q => !(q.1 == i) && (!(q.1 == i + 1) && !(q.1 + 1 == i && q.2.category == 2))))) : gV ls' (gSt2 lv i v) := by
  refine gV.of h (by simp [gSt2]) (fun j w hw => ?_)
  unfold gSt2 at hw
  by_cases e : j = i
  · subst e
    rw [List.getElem?_set_self (by rw [List.length_set]; omega)] at hw
    cases hw
    exact List.mem_cons_self
  · rw [List.getElem?_set_ne (Ne.symm e)] at hw
    by_cases e2 : j = i + 1
    · subst e2
      rw [List.getElem?_set_self hi] at hw
      cases hw
    · rw [List.getElem?_set_ne (Ne.symm e2)] at hw
      refine List.mem_cons_of_mem _ (List.mem_filter.mpr ⟨gVl_mem.mpr hw, ?_⟩)
      have hk := gCut_of hc j w hw
      simp only [Bool.and_eq_true, Bool.not_eq_true', beq_eq_false_iff_ne, ne_eq, Bool.and_eq_false_iff]
      refine ⟨e, e2, ?_⟩
      by_cases h2 : w.category = 2
      · exact Or.inl (hk h2)
      · exact Or.inr h2
section VAA
variable {p : Program} {l : Launch} {e : Env} {R : Room} {s : State} {m : MethodId} {args : Array Value} {below : List Frame} {meth : Method} {c : Code} {H : Heap} {locs : List Loc} {cells slots : Nat} {Q : State → Prop}
variable {cc : ByteArray} {pc : Nat} {ls : Array Slot} {rest : List Value} {D : va_G} {cl : List vw_C} {A : Nat → Prop} {a : Nat} {tys : List (ClassId × FieldType)} {ws : va_W} {H0 : Heap}
theorem va_aldA (hexec : p.tables.exec = Jvm.exec) (hb : c.code = cc) (hK : va_K D cl tys s) (hP : va_P D cl ws H) (q0 t0 : Nat) {cA : ClassId} {n : Nat} {f : Nat → Option Nat} (ha : ws[q0]? = some (a, .inl (cA, n, .inr (.inr (.inr (.inr f)))))) (ht : tys[t0]? = some (cA, .array .int)) {i : Int32} (hin : vp_in i n) (hdg : decode cc pc = .ok (.aaload, 1))
    (kk : W p l e R s m args below meth c H locs cells slots Q (F0 m (pc + 1) ls (va_rf (f i.toNatClampNeg) :: rest))) : W p l e R s m args below meth c H locs cells slots Q (F0 m pc ls (.int i :: .ref a :: rest)) := by
  have hlt : i.toNatClampNeg < n := Nat.not_le.mp fun q => hin (Or.inr q)
  exact W.aald (v := va_rf (f i.toNatClampNeg)) (ty := .array .int) hexec hb (hP q0 _ ha) ((hK.2 t0 _ ht).1 n (fun j => va_rf (f j))) rfl (fun q => by cases q) (by show ¬ (i < 0 ∨ (arrV _ _ _).slots.size ≤ _); rw [arrV_size]; exact hin) (by show (arrV _ _ _).slots[_]? = _; rw [arrV_read _ _ hlt]) rfl rfl hdg kk
end VAA
-- THE JUDGEMENT. Γ: the machine's side of one method's run
abbrev GX : Type := (Program × Launch × Env × Room) × (State × MethodId × Array Value × List Frame) × (Method × Code × (State → Prop)) × (Nat × Nat)
def gW (Γ : GX) (δ : GD) (σ : GS) (pc : Nat) (lv : List (Option Value)) (st : List Value) : Prop :=
  ∀ (H : Heap) (locs : List Loc) (ls : Array Slot), va_P δ.1 vwCl (wG δ σ) H → va_S (gA δ Γ.2.1.1.heap.size) Γ.2.1.1.heap H locs → gV ls lv →
    W Γ.1.1 Γ.1.2.1 Γ.1.2.2.1 Γ.1.2.2.2 Γ.2.1.1 Γ.2.1.2.1 Γ.2.1.2.2.1 Γ.2.1.2.2.2 Γ.2.2.1.1 Γ.2.2.1.2.1 H locs Γ.2.2.2.1 Γ.2.2.2.2 Γ.2.2.1.2.2 (F0 Γ.2.1.2.1 pc ls st)
def gC (Γ : GX) (δ : GD) (cc : ByteArray) (own : String) (nL fr lo : Nat) : Prop :=
  Γ.1.1.tables.exec = Jvm.exec ∧ Γ.2.2.1.2.1.code = cc ∧ Γ.2.2.1.2.1.maxLocals = nL ∧ Γ.2.1.1.vm.findClass own = some Γ.2.1.2.1.cls ∧ (∀ w ∈ gWs, w.before Γ.2.1.2.2.1 Γ.2.1.1 = true) ∧
  va_K δ.1 vwCl (gT δ.2.1) Γ.2.1.1 ∧ gDj δ ∧ gStat δ Γ.2.1.1 Γ.2.1.1.heap Γ.2.1.1.heap.size ∧ gNest Γ.2.1.1 ∧ (fr ≤ Γ.1.2.2.2.frames ∧ lo ≤ Γ.1.2.2.2.locals) ∧ (Γ.2.2.2.1 ≤ Γ.1.2.2.2.cells ∧ Γ.2.2.2.2 ≤ Γ.1.2.2.2.slots)
section GR
variable {Γ : GX} {δ : GD} {σ : GS} {cc : ByteArray} {own : String} {nL fr lo pc : Nat} {lv : List (Option Value)} {st : List Value}
theorem g_st {σ' : GS} (h : σ = σ') (k : gW Γ δ σ' pc lv st) : gW Γ δ σ pc lv st := h ▸ k
theorem g_sub {lv' : List (Option Value)} (hl : lv'.length = lv.length) (h : ∀ (i : Nat) (v : Value), lv'[i]? = some (some v) → lv[i]? = some (some v)) (k : gW Γ δ σ pc lv' st) : gW Γ δ σ pc lv st :=
  fun H locs ls hP hS hV => k H locs ls hP hS ⟨hV.1.trans hl.symm, hV.2.1, fun i v hv => hV.2.2 i v (h i v hv)⟩
/-- which known locals of lv' are lv's: by place, bit by bit -/
def gSubB : List (Option Value) → List (Option Value) → Prop
  | [], [] => True
  | some v :: l', o :: l => o = some v ∧ gSubB l' l
  | none :: l', _ :: l => gSubB l' l
  | _, _ => False
theorem gSub_of : ∀ {l' l : List (Option Value)}, gSubB l' l → l'.length = l.length ∧ ∀ (i : Nat) (v : Value), l'[i]? = some (some v) → l[i]? = some (some v)
  | [], [], _ => ⟨rfl, fun i v h => by simp at h⟩
  | some w :: l', o :: l, h => by
    obtain ⟨e, h⟩ := h
    subst e
    obtain ⟨h1, h2⟩ := gSub_of h
    refine ⟨by simp [h1], fun i v hv => ?_⟩
    cases i with
    | zero => exact hv
    | succ i => exact h2 i v hv
  | none :: l', o :: l, h => by
    obtain ⟨h1, h2⟩ := gSub_of (l' := l') (l := l) h
    refine ⟨by simp [h1], fun i v hv => ?_⟩
    cases i with
    | zero => simp at hv
    | succ i => exact h2 i v hv
  | [], _ :: _, h => h.elim
  | some _ :: _, [], h => h.elim
  | none :: _, [], h => h.elim
theorem g_lv (lv' : List (Option Value)) (h : gSubB lv' lv) (k : gW Γ δ σ pc lv' st) : gW Γ δ σ pc lv st := g_sub (gSub_of h).1 (gSub_of h).2 k
theorem g_iconst (C : gC Γ δ cc own nL fr lo) {n : Int} {v : Int32} (d : decode cc pc = .ok (.iconst n, 1)) (hv : Int32.ofInt n = v) (k : gW Γ δ σ (pc + 1) lv (.int v :: st)) : gW Γ δ σ pc lv st :=
  fun H locs ls hP hS hV => lv_iconst C.1 C.2.1 d hv (k H locs ls hP hS hV)
theorem g_bipush (C : gC Γ δ cc own nL fr lo) {n : Int} {v : Int32} (d : decode cc pc = .ok (.bipush n, 2)) (hv : (Int8.ofInt n).toInt32 = v) (k : gW Γ δ σ (pc + 2) lv (.int v :: st)) : gW Γ δ σ pc lv st :=
  fun H locs ls hP hS hV => lv_bipush C.1 C.2.1 d hv (k H locs ls hP hS hV)
theorem g_sipush (C : gC Γ δ cc own nL fr lo) {n : Int} {v : Int32} (d : decode cc pc = .ok (.sipush n, 3)) (hv : (Int16.ofInt n).toInt32 = v) (k : gW Γ δ σ (pc + 3) lv (.int v :: st)) : gW Γ δ σ pc lv st :=
  fun H locs ls hP hS hV => lv_sipush C.1 C.2.1 d hv (k H locs ls hP hS hV)
theorem g_lconst (C : gC Γ δ cc own nL fr lo) {n : Fin 2} {v : Int64} (d : decode cc pc = .ok (.lconst n, 1)) (hv : Int64.ofNat (n : Nat) = v) (k : gW Γ δ σ (pc + 1) lv (.long v :: st)) : gW Γ δ σ pc lv st :=
  fun H locs ls hP hS hV => lv_lconst C.1 C.2.1 d hv (k H locs ls hP hS hV)
theorem g_null (C : gC Γ δ cc own nL fr lo) (d : decode cc pc = .ok (.aconst_null, 1)) (k : gW Γ δ σ (pc + 1) lv (.null :: st)) : gW Γ δ σ pc lv st :=
  fun H locs ls hP hS hV => lv_null C.1 C.2.1 d (k H locs ls hP hS hV)
theorem g_ldc2 (C : gC Γ δ cc own nL fr lo) {index : Nat} {v : Int64} (d : decode cc pc = .ok (.ldc2_w index, 3)) (w : Cond.constantLong own index v ∈ gWs) (k : gW Γ δ σ (pc + 3) lv (.long v :: st)) : gW Γ δ σ pc lv st :=
  fun H locs ls hP hS hV => lv_ldc2 C.1 C.2.1 C.2.2.2.1 (C.2.2.2.2.1 _ w) d (k H locs ls hP hS hV)
theorem g_ldc (C : gC Γ δ cc own nL fr lo) {index : Nat} {v : Int32} (d : decode cc pc = .ok (.ldc index, 2)) (w : Cond.constant own index v ∈ gWs) (k : gW Γ δ σ (pc + 2) lv (.int v :: st)) : gW Γ δ σ pc lv st :=
  fun H locs ls hP hS hV => lv_ldc C.1 C.2.1 C.2.2.2.1 (C.2.2.2.2.1 _ w) d (k H locs ls hP hS hV)
theorem g_iload_n (C : gC Γ δ cc own nL fr lo) {i : Fin 4} {x : Int32} (d : decode cc pc = .ok (.iload_n i, 1)) (h : lv[(i : Nat)]? = some (some (.int x))) (k : gW Γ δ σ (pc + 1) lv (.int x :: st)) : gW Γ δ σ pc lv st :=
  fun H locs ls hP hS hV => lv_iload_n C.1 C.2.1 d rfl (hV.2.2 _ _ h) (k H locs ls hP hS hV)
theorem g_iload (C : gC Γ δ cc own nL fr lo) {i : Nat} {x : Int32} (d : decode cc pc = .ok (.iload i, 2)) (h : lv[i]? = some (some (.int x))) (k : gW Γ δ σ (pc + 2) lv (.int x :: st)) : gW Γ δ σ pc lv st :=
  fun H locs ls hP hS hV => lv_iload C.1 C.2.1 d (hV.2.2 _ _ h) (k H locs ls hP hS hV)
theorem g_lload_n (C : gC Γ δ cc own nL fr lo) {i : Fin 4} {x : Int64} (d : decode cc pc = .ok (.lload_n i, 1)) (h : lv[(i : Nat)]? = some (some (.long x))) (k : gW Γ δ σ (pc + 1) lv (.long x :: st)) : gW Γ δ σ pc lv st :=
  fun H locs ls hP hS hV => lv_lload_n C.1 C.2.1 d rfl (hV.2.2 _ _ h) (k H locs ls hP hS hV)
theorem g_lload (C : gC Γ δ cc own nL fr lo) {i : Nat} {x : Int64} (d : decode cc pc = .ok (.lload i, 2)) (h : lv[i]? = some (some (.long x))) (k : gW Γ δ σ (pc + 2) lv (.long x :: st)) : gW Γ δ σ pc lv st :=
  fun H locs ls hP hS hV => lv_lload C.1 C.2.1 d (hV.2.2 _ _ h) (k H locs ls hP hS hV)
theorem g_aload_n (C : gC Γ δ cc own nL fr lo) {i : Fin 4} {x : Nat} (d : decode cc pc = .ok (.aload_n i, 1)) (h : lv[(i : Nat)]? = some (some (.ref x))) (k : gW Γ δ σ (pc + 1) lv (.ref x :: st)) : gW Γ δ σ pc lv st :=
  fun H locs ls hP hS hV => lv_aload_n C.1 C.2.1 d rfl (hV.2.2 _ _ h) (k H locs ls hP hS hV)
theorem g_aload (C : gC Γ δ cc own nL fr lo) {i : Nat} {x : Nat} (d : decode cc pc = .ok (.aload i, 2)) (h : lv[i]? = some (some (.ref x))) (k : gW Γ δ σ (pc + 2) lv (.ref x :: st)) : gW Γ δ σ pc lv st :=
  fun H locs ls hP hS hV => lv_aload C.1 C.2.1 d (hV.2.2 _ _ h) (k H locs ls hP hS hV)
theorem g_istore_n (C : gC Γ δ cc own nL fr lo) {i : Fin 4} {x : Int32} (d : decode cc pc = .ok (.istore_n i, 1)) (hi : (i : Nat) < lv.length) (hc : gCutB lv i = true) (k : gW Γ δ σ (pc + 1) (gSt1 lv i (.int x)) st) : gW Γ δ σ pc lv (.int x :: st) :=
  fun H locs ls hP hS hV => lv_istore_n C.1 C.2.1 d rfl hV.has hi rfl (fun ls' h' => k H locs ls' hP hS (gV.st1 (ls := ls) hc hi h'))
theorem g_istore (C : gC Γ δ cc own nL fr lo) {i : Nat} {x : Int32} (d : decode cc pc = .ok (.istore i, 2)) (hi : (i : Nat) < lv.length) (hc : gCutB lv i = true) (k : gW Γ δ σ (pc + 2) (gSt1 lv i (.int x)) st) : gW Γ δ σ pc lv (.int x :: st) :=
  fun H locs ls hP hS hV => lv_istore C.1 C.2.1 d hV.has hi rfl (fun ls' h' => k H locs ls' hP hS (gV.st1 (ls := ls) hc hi h'))
theorem g_lstore_n (C : gC Γ δ cc own nL fr lo) {i : Fin 4} {x : Int64} (d : decode cc pc = .ok (.lstore_n i, 1)) (hi : (i : Nat) + 1 < lv.length) (hc : gCutB lv i = true) (k : gW Γ δ σ (pc + 1) (gSt2 lv i (.long x)) st) : gW Γ δ σ pc lv (.long x :: st) :=
  fun H locs ls hP hS hV => lv_lstore_n C.1 C.2.1 d rfl hV.has hi rfl (fun ls' h' => k H locs ls' hP hS (gV.st2 (ls := ls) hc hi h'))
theorem g_lstore (C : gC Γ δ cc own nL fr lo) {i : Nat} {x : Int64} (d : decode cc pc = .ok (.lstore i, 2)) (hi : (i : Nat) + 1 < lv.length) (hc : gCutB lv i = true) (k : gW Γ δ σ (pc + 2) (gSt2 lv i (.long x)) st) : gW Γ δ σ pc lv (.long x :: st) :=
  fun H locs ls hP hS hV => lv_lstore C.1 C.2.1 d hV.has hi rfl (fun ls' h' => k H locs ls' hP hS (gV.st2 (ls := ls) hc hi h'))
theorem g_astore_n (C : gC Γ δ cc own nL fr lo) {i : Fin 4} {x : Nat} (d : decode cc pc = .ok (.astore_n i, 1)) (hi : (i : Nat) < lv.length) (hc : gCutB lv i = true) (k : gW Γ δ σ (pc + 1) (gSt1 lv i (.ref x)) st) : gW Γ δ σ pc lv (.ref x :: st) :=
  fun H locs ls hP hS hV => lv_astore_n C.1 C.2.1 d rfl hV.has hi rfl (fun ls' h' => k H locs ls' hP hS (gV.st1 (ls := ls) hc hi h'))
theorem g_astore (C : gC Γ δ cc own nL fr lo) {i : Nat} {x : Nat} (d : decode cc pc = .ok (.astore i, 2)) (hi : (i : Nat) < lv.length) (hc : gCutB lv i = true) (k : gW Γ δ σ (pc + 2) (gSt1 lv i (.ref x)) st) : gW Γ δ σ pc lv (.ref x :: st) :=
  fun H locs ls hP hS hV => lv_astore C.1 C.2.1 d hV.has hi rfl (fun ls' h' => k H locs ls' hP hS (gV.st1 (ls := ls) hc hi h'))
theorem g_iinc (C : gC Γ δ cc own nL fr lo) {i : Nat} {n : Int} {x v : Int32} (d : decode cc pc = .ok (.iinc i n, 3)) (h : lv[i]? = some (some (.int x))) (hv : x + Int32.ofInt n = v) (hc : gCutB lv i = true) (k : gW Γ δ σ (pc + 3) (gSt1 lv i (.int v)) st) : gW Γ δ σ pc lv st := by
  intro H locs ls hP hS hV
  have hi : i < lv.length := (List.getElem?_eq_some_iff.mp h).1
  obtain ⟨q, hq⟩ := List.getElem?_of_mem (gVl_mem.mpr h)
  exact lv_iinc C.1 C.2.1 d hV.has hq hv hi rfl (fun ls' h' => k H locs ls' hP hS (gV.st1 (ls := ls) hc hi h'))
theorem g_iadd (C : gC Γ δ cc own nL fr lo) {x y : Int32} (d : decode cc pc = .ok (.iadd, 1)) (k : gW Γ δ σ (pc + 1) lv (.int (x + y) :: st)) : gW Γ δ σ pc lv (.int y :: .int x :: st) :=
  fun H locs ls hP hS hV => lv_iadd C.1 C.2.1 d (k H locs ls hP hS hV)
theorem g_isub (C : gC Γ δ cc own nL fr lo) {x y : Int32} (d : decode cc pc = .ok (.isub, 1)) (k : gW Γ δ σ (pc + 1) lv (.int (x - y) :: st)) : gW Γ δ σ pc lv (.int y :: .int x :: st) :=
  fun H locs ls hP hS hV => lv_isub C.1 C.2.1 d (k H locs ls hP hS hV)
theorem g_imul (C : gC Γ δ cc own nL fr lo) {x y : Int32} (d : decode cc pc = .ok (.imul, 1)) (k : gW Γ δ σ (pc + 1) lv (.int (x * y) :: st)) : gW Γ δ σ pc lv (.int y :: .int x :: st) :=
  fun H locs ls hP hS hV => lv_imul C.1 C.2.1 d (k H locs ls hP hS hV)
theorem g_iand (C : gC Γ δ cc own nL fr lo) {x y : Int32} (d : decode cc pc = .ok (.iand, 1)) (k : gW Γ δ σ (pc + 1) lv (.int (x &&& y) :: st)) : gW Γ δ σ pc lv (.int y :: .int x :: st) :=
  fun H locs ls hP hS hV => lv_iand C.1 C.2.1 d (k H locs ls hP hS hV)
theorem g_ishl (C : gC Γ δ cc own nL fr lo) {x y : Int32} (d : decode cc pc = .ok (.ishl, 1)) (k : gW Γ δ σ (pc + 1) lv (.int (x <<< (y &&& 31)) :: st)) : gW Γ δ σ pc lv (.int y :: .int x :: st) :=
  fun H locs ls hP hS hV => lv_ishl C.1 C.2.1 d (k H locs ls hP hS hV)
theorem g_ishr (C : gC Γ δ cc own nL fr lo) {x y : Int32} (d : decode cc pc = .ok (.ishr, 1)) (k : gW Γ δ σ (pc + 1) lv (.int (x >>> (y &&& 31)) :: st)) : gW Γ δ σ pc lv (.int y :: .int x :: st) :=
  fun H locs ls hP hS hV => lv_ishr C.1 C.2.1 d (k H locs ls hP hS hV)
theorem g_idiv (C : gC Γ δ cc own nL fr lo) {x y : Int32} (d : decode cc pc = .ok (.idiv, 1)) (hne : ¬ y = 0) (k : gW Γ δ σ (pc + 1) lv (.int (x / y) :: st)) : gW Γ δ σ pc lv (.int y :: .int x :: st) :=
  fun H locs ls hP hS hV => lv_idiv C.1 C.2.1 d hne (k H locs ls hP hS hV)
theorem g_irem (C : gC Γ δ cc own nL fr lo) {x y : Int32} (d : decode cc pc = .ok (.irem, 1)) (hne : ¬ y = 0) (k : gW Γ δ σ (pc + 1) lv (.int (x - x / y * y) :: st)) : gW Γ δ σ pc lv (.int y :: .int x :: st) :=
  fun H locs ls hP hS hV => lv_irem C.1 C.2.1 d hne (k H locs ls hP hS hV)
theorem g_ladd (C : gC Γ δ cc own nL fr lo) {x y : Int64} (d : decode cc pc = .ok (.ladd, 1)) (k : gW Γ δ σ (pc + 1) lv (.long (x + y) :: st)) : gW Γ δ σ pc lv (.long y :: .long x :: st) :=
  fun H locs ls hP hS hV => lv_ladd C.1 C.2.1 d (k H locs ls hP hS hV)
theorem g_lmul (C : gC Γ δ cc own nL fr lo) {x y : Int64} (d : decode cc pc = .ok (.lmul, 1)) (k : gW Γ δ σ (pc + 1) lv (.long (x * y) :: st)) : gW Γ δ σ pc lv (.long y :: .long x :: st) :=
  fun H locs ls hP hS hV => lv_lmul C.1 C.2.1 d (k H locs ls hP hS hV)
theorem g_ldiv (C : gC Γ δ cc own nL fr lo) {x y : Int64} (d : decode cc pc = .ok (.ldiv, 1)) (hne : ¬ y = 0) (k : gW Γ δ σ (pc + 1) lv (.long (x / y) :: st)) : gW Γ δ σ pc lv (.long y :: .long x :: st) :=
  fun H locs ls hP hS hV => lv_ldiv C.1 C.2.1 d hne (k H locs ls hP hS hV)
theorem g_lrem (C : gC Γ δ cc own nL fr lo) {x y : Int64} (d : decode cc pc = .ok (.lrem, 1)) (hne : ¬ y = 0) (k : gW Γ δ σ (pc + 1) lv (.long (x - x / y * y) :: st)) : gW Γ δ σ pc lv (.long y :: .long x :: st) :=
  fun H locs ls hP hS hV => lv_lrem C.1 C.2.1 d hne (k H locs ls hP hS hV)
theorem g_land (C : gC Γ δ cc own nL fr lo) {x y : Int64} (d : decode cc pc = .ok (.land, 1)) (k : gW Γ δ σ (pc + 1) lv (.long (x &&& y) :: st)) : gW Γ δ σ pc lv (.long y :: .long x :: st) :=
  fun H locs ls hP hS hV => lv_land C.1 C.2.1 d (k H locs ls hP hS hV)
theorem g_lor (C : gC Γ δ cc own nL fr lo) {x y : Int64} (d : decode cc pc = .ok (.lor, 1)) (k : gW Γ δ σ (pc + 1) lv (.long (x ||| y) :: st)) : gW Γ δ σ pc lv (.long y :: .long x :: st) :=
  fun H locs ls hP hS hV => lv_lor C.1 C.2.1 d (k H locs ls hP hS hV)
theorem g_lshl (C : gC Γ δ cc own nL fr lo) {x : Int64} {y : Int32} (d : decode cc pc = .ok (.lshl, 1)) (k : gW Γ δ σ (pc + 1) lv (.long (x <<< (y.toInt64 &&& 63)) :: st)) : gW Γ δ σ pc lv (.int y :: .long x :: st) :=
  fun H locs ls hP hS hV => lv_lshl C.1 C.2.1 d rfl (k H locs ls hP hS hV)
theorem g_i2l (C : gC Γ δ cc own nL fr lo) {x : Int32} (d : decode cc pc = .ok (.i2l, 1)) (k : gW Γ δ σ (pc + 1) lv (.long x.toInt64 :: st)) : gW Γ δ σ pc lv (.int x :: st) :=
  fun H locs ls hP hS hV => lv_i2l C.1 C.2.1 d rfl (k H locs ls hP hS hV)
theorem g_l2i (C : gC Γ δ cc own nL fr lo) {x : Int64} (d : decode cc pc = .ok (.l2i, 1)) (k : gW Γ δ σ (pc + 1) lv (.int x.toInt32 :: st)) : gW Γ δ σ pc lv (.long x :: st) :=
  fun H locs ls hP hS hV => lv_l2i C.1 C.2.1 d rfl (k H locs ls hP hS hV)
theorem g_i2b (C : gC Γ δ cc own nL fr lo) {x : Int32} (d : decode cc pc = .ok (.i2b, 1)) (k : gW Γ δ σ (pc + 1) lv (.int x.toInt8.toInt32 :: st)) : gW Γ δ σ pc lv (.int x :: st) :=
  fun H locs ls hP hS hV => lv_i2b C.1 C.2.1 d rfl (k H locs ls hP hS hV)
theorem g_dup (C : gC Γ δ cc own nL fr lo) {v : Value} (d : decode cc pc = .ok (.dup, 1)) (hv : v.category = 1) (k : gW Γ δ σ (pc + 1) lv (v :: v :: st)) : gW Γ δ σ pc lv (v :: st) :=
  fun H locs ls hP hS hV => lv_dup C.1 C.2.1 d hv (k H locs ls hP hS hV)
theorem g_dup2 (C : gC Γ δ cc own nL fr lo) {v w : Value} (d : decode cc pc = .ok (.dup2, 1)) (hv : v.category = 1) (hw : w.category = 1) (k : gW Γ δ σ (pc + 1) lv (v :: w :: v :: w :: st)) : gW Γ δ σ pc lv (v :: w :: st) :=
  fun H locs ls hP hS hV => lv_dup2_11 C.1 C.2.1 d hv hw (k H locs ls hP hS hV)
theorem g_pop (C : gC Γ δ cc own nL fr lo) {v : Value} (d : decode cc pc = .ok (.pop, 1)) (hv : v.category = 1) (k : gW Γ δ σ (pc + 1) lv st) : gW Γ δ σ pc lv (v :: st) :=
  fun H locs ls hP hS hV => lv_pop C.1 C.2.1 d hv (k H locs ls hP hS hV)
theorem g_pop2 (C : gC Γ δ cc own nL fr lo) {v : Value} (d : decode cc pc = .ok (.pop2, 1)) (hv : v.category = 2) (k : gW Γ δ σ (pc + 1) lv st) : gW Γ δ σ pc lv (v :: st) :=
  fun H locs ls hP hS hV => lv_pop2_2 C.1 C.2.1 d hv (k H locs ls hP hS hV)
theorem g_goto (C : gC Γ δ cc own nL fr lo) {off : Int} (tgt : Nat) (d : decode cc pc = .ok (.goto off, 3)) (ht : (pc : Int) + off = (tgt : Int)) (k : gW Γ δ σ tgt lv st) : gW Γ δ σ pc lv st :=
  fun H locs ls hP hS hV => lv_goto C.1 C.2.1 d ht (k H locs ls hP hS hV)
theorem g_icmp_eq (C : gC Γ δ cc own nL fr lo) {x y : Int32} {off : Int} (tgt : Nat) (d : decode cc pc = .ok (.if_icmp .eq off, 3)) (ht : (pc : Int) + off = (tgt : Int)) (kt : x = y → gW Γ δ σ tgt lv st) (kf : ¬ x = y → gW Γ δ σ (pc + 3) lv st) : gW Γ δ σ pc lv (.int y :: .int x :: st) :=
  fun H locs ls hP hS hV => lv_icmp_eq C.1 C.2.1 d ht (fun h => kt h H locs ls hP hS hV) (fun h => kf h H locs ls hP hS hV)
theorem g_if_eq (C : gC Γ δ cc own nL fr lo) {x : Int32} {off : Int} (tgt : Nat) (d : decode cc pc = .ok (.ifCond .eq off, 3)) (ht : (pc : Int) + off = (tgt : Int)) (kt : x = 0 → gW Γ δ σ tgt lv st) (kf : ¬ x = 0 → gW Γ δ σ (pc + 3) lv st) : gW Γ δ σ pc lv (.int x :: st) :=
  fun H locs ls hP hS hV => lv_if_eq C.1 C.2.1 d ht (fun h => kt h H locs ls hP hS hV) (fun h => kf h H locs ls hP hS hV)
theorem g_icmp_ne (C : gC Γ δ cc own nL fr lo) {x y : Int32} {off : Int} (tgt : Nat) (d : decode cc pc = .ok (.if_icmp .ne off, 3)) (ht : (pc : Int) + off = (tgt : Int)) (kt : ¬ x = y → gW Γ δ σ tgt lv st) (kf : x = y → gW Γ δ σ (pc + 3) lv st) : gW Γ δ σ pc lv (.int y :: .int x :: st) :=
  fun H locs ls hP hS hV => lv_icmp_ne C.1 C.2.1 d ht (fun h => kt h H locs ls hP hS hV) (fun h => kf h H locs ls hP hS hV)
theorem g_if_ne (C : gC Γ δ cc own nL fr lo) {x : Int32} {off : Int} (tgt : Nat) (d : decode cc pc = .ok (.ifCond .ne off, 3)) (ht : (pc : Int) + off = (tgt : Int)) (kt : ¬ x = 0 → gW Γ δ σ tgt lv st) (kf : x = 0 → gW Γ δ σ (pc + 3) lv st) : gW Γ δ σ pc lv (.int x :: st) :=
  fun H locs ls hP hS hV => lv_if_ne C.1 C.2.1 d ht (fun h => kt h H locs ls hP hS hV) (fun h => kf h H locs ls hP hS hV)
theorem g_icmp_lt (C : gC Γ δ cc own nL fr lo) {x y : Int32} {off : Int} (tgt : Nat) (d : decode cc pc = .ok (.if_icmp .lt off, 3)) (ht : (pc : Int) + off = (tgt : Int)) (kt : x < y → gW Γ δ σ tgt lv st) (kf : ¬ x < y → gW Γ δ σ (pc + 3) lv st) : gW Γ δ σ pc lv (.int y :: .int x :: st) :=
  fun H locs ls hP hS hV => lv_icmp_lt C.1 C.2.1 d ht (fun h => kt h H locs ls hP hS hV) (fun h => kf h H locs ls hP hS hV)
theorem g_if_lt (C : gC Γ δ cc own nL fr lo) {x : Int32} {off : Int} (tgt : Nat) (d : decode cc pc = .ok (.ifCond .lt off, 3)) (ht : (pc : Int) + off = (tgt : Int)) (kt : x < 0 → gW Γ δ σ tgt lv st) (kf : ¬ x < 0 → gW Γ δ σ (pc + 3) lv st) : gW Γ δ σ pc lv (.int x :: st) :=
  fun H locs ls hP hS hV => lv_if_lt C.1 C.2.1 d ht (fun h => kt h H locs ls hP hS hV) (fun h => kf h H locs ls hP hS hV)
theorem g_icmp_ge (C : gC Γ δ cc own nL fr lo) {x y : Int32} {off : Int} (tgt : Nat) (d : decode cc pc = .ok (.if_icmp .ge off, 3)) (ht : (pc : Int) + off = (tgt : Int)) (kt : y ≤ x → gW Γ δ σ tgt lv st) (kf : ¬ y ≤ x → gW Γ δ σ (pc + 3) lv st) : gW Γ δ σ pc lv (.int y :: .int x :: st) :=
  fun H locs ls hP hS hV => lv_icmp_ge C.1 C.2.1 d ht (fun h => kt h H locs ls hP hS hV) (fun h => kf h H locs ls hP hS hV)
theorem g_if_ge (C : gC Γ δ cc own nL fr lo) {x : Int32} {off : Int} (tgt : Nat) (d : decode cc pc = .ok (.ifCond .ge off, 3)) (ht : (pc : Int) + off = (tgt : Int)) (kt : 0 ≤ x → gW Γ δ σ tgt lv st) (kf : ¬ 0 ≤ x → gW Γ δ σ (pc + 3) lv st) : gW Γ δ σ pc lv (.int x :: st) :=
  fun H locs ls hP hS hV => lv_if_ge C.1 C.2.1 d ht (fun h => kt h H locs ls hP hS hV) (fun h => kf h H locs ls hP hS hV)
theorem g_icmp_gt (C : gC Γ δ cc own nL fr lo) {x y : Int32} {off : Int} (tgt : Nat) (d : decode cc pc = .ok (.if_icmp .gt off, 3)) (ht : (pc : Int) + off = (tgt : Int)) (kt : y < x → gW Γ δ σ tgt lv st) (kf : ¬ y < x → gW Γ δ σ (pc + 3) lv st) : gW Γ δ σ pc lv (.int y :: .int x :: st) :=
  fun H locs ls hP hS hV => lv_icmp_gt C.1 C.2.1 d ht (fun h => kt h H locs ls hP hS hV) (fun h => kf h H locs ls hP hS hV)
theorem g_if_gt (C : gC Γ δ cc own nL fr lo) {x : Int32} {off : Int} (tgt : Nat) (d : decode cc pc = .ok (.ifCond .gt off, 3)) (ht : (pc : Int) + off = (tgt : Int)) (kt : 0 < x → gW Γ δ σ tgt lv st) (kf : ¬ 0 < x → gW Γ δ σ (pc + 3) lv st) : gW Γ δ σ pc lv (.int x :: st) :=
  fun H locs ls hP hS hV => lv_if_gt C.1 C.2.1 d ht (fun h => kt h H locs ls hP hS hV) (fun h => kf h H locs ls hP hS hV)
theorem g_icmp_le (C : gC Γ δ cc own nL fr lo) {x y : Int32} {off : Int} (tgt : Nat) (d : decode cc pc = .ok (.if_icmp .le off, 3)) (ht : (pc : Int) + off = (tgt : Int)) (kt : x ≤ y → gW Γ δ σ tgt lv st) (kf : ¬ x ≤ y → gW Γ δ σ (pc + 3) lv st) : gW Γ δ σ pc lv (.int y :: .int x :: st) :=
  fun H locs ls hP hS hV => lv_icmp_le C.1 C.2.1 d ht (fun h => kt h H locs ls hP hS hV) (fun h => kf h H locs ls hP hS hV)
theorem g_if_le (C : gC Γ δ cc own nL fr lo) {x : Int32} {off : Int} (tgt : Nat) (d : decode cc pc = .ok (.ifCond .le off, 3)) (ht : (pc : Int) + off = (tgt : Int)) (kt : x ≤ 0 → gW Γ δ σ tgt lv st) (kf : ¬ x ≤ 0 → gW Γ δ σ (pc + 3) lv st) : gW Γ δ σ pc lv (.int x :: st) :=
  fun H locs ls hP hS hV => lv_if_le C.1 C.2.1 d ht (fun h => kt h H locs ls hP hS hV) (fun h => kf h H locs ls hP hS hV)
theorem g_ifnull_r (C : gC Γ δ cc own nL fr lo) {off : Int} {x : Nat} (d : decode cc pc = .ok (.ifnull off, 3)) (k : gW Γ δ σ (pc + 3) lv st) : gW Γ δ σ pc lv (.ref x :: st) :=
  fun H locs ls hP hS hV => lv_ifnull C.1 C.2.1 d (k H locs ls hP hS hV)
theorem g_ifnonnull_r (C : gC Γ δ cc own nL fr lo) {off : Int} {x : Nat} (tgt : Nat) (d : decode cc pc = .ok (.ifnonnull off, 3)) (ht : (pc : Int) + off = (tgt : Int)) (k : gW Γ δ σ tgt lv st) : gW Γ δ σ pc lv (.ref x :: st) :=
  fun H locs ls hP hS hV => lv_ifnonnull C.1 C.2.1 d ht (k H locs ls hP hS hV)
theorem g_tableIn (C : gC Γ δ cc own nL fr lo) {dflt lo' hi : Int} {offs : Array Int} {len : Nat} {x : Int32} {off : Int} (tgt : Nat) (d : decode cc pc = .ok (.tableswitch dflt lo' hi offs, len)) (h1 : ¬ x.toInt < lo') (h2 : ¬ hi < x.toInt) (ho : offs[(x.toInt - lo').toNat]? = some off) (ht : (pc : Int) + off = (tgt : Int)) (k : gW Γ δ σ tgt lv st) : gW Γ δ σ pc lv (.int x :: st) :=
  fun H locs ls hP hS hV => lv_tableIn C.1 C.2.1 d h1 h2 ho ht (k H locs ls hP hS hV)
theorem g_tableOut (C : gC Γ δ cc own nL fr lo) {dflt lo' hi : Int} {offs : Array Int} {len : Nat} {x : Int32} (tgt : Nat) (d : decode cc pc = .ok (.tableswitch dflt lo' hi offs, len)) (h : x.toInt < lo' ∨ hi < x.toInt) (ht : (pc : Int) + dflt = (tgt : Int)) (k : gW Γ δ σ tgt lv st) : gW Γ δ σ pc lv (.int x :: st) :=
  fun H locs ls hP hS hV => lv_tableOut C.1 C.2.1 d h ht (k H locs ls hP hS hV)
theorem g_get (C : gC Γ δ cc own nL fr lo) {ref Cn : String} {T : u_T} {N ci index q b : Nat} {fs : List Value} {v : Value} (d : decode cc pc = .ok (.getfield index, 3)) (hin : ∀ w ∈ u_ws Cn T N, w ∈ gWs) (hc : vwCl[ci]? = some (Cn, T, N)) (ho : (wG δ σ)[q]? = some (b, .inr (ci, fs))) (kf : Nat) (hk : kf < N) (w : Cond.fieldLink own index ref (T kf).2.1 (T kf).2.2.1 ∈ gWs) (hr : (T kf).1 = ref) (hv : fs[kf]? = some v) (k : gW Γ δ σ (pc + 3) lv (v :: st)) : gW Γ δ σ pc lv (.ref b :: st) :=
  fun H locs ls hP hS hV => va_get C.1 C.2.1 C.2.2.2.2.1 hin C.2.2.2.1 C.2.2.2.2.2.1 hP q ho hc kf hk (C.2.2.2.2.1 _ w) (by rw [hr]; exact fun _ h => h) hv d (k H locs ls hP hS hV)
theorem g_put (C : gC Γ δ cc own nL fr lo) {σ' : GS} {ref Cn : String} {T : u_T} {N ci index q b : Nat} {fs : List Value} {v : Value} {ty : FieldType} (ty0 : Nat → FieldType) (d : decode cc pc = .ok (.putfield index, 3)) (hin : ∀ w ∈ u_ws Cn T N, w ∈ gWs) (hty : ∀ k, k < N → parseFieldDescriptor (T k).2.2.1 = some (ty0 k)) (hnm : ∀ a, a < N → ∀ b, b < N → a ≠ b → (T a).2.1 ≠ (T b).2.1) (hc : vwCl[ci]? = some (Cn, T, N)) (ho : (wG δ σ)[q]? = some (b, .inr (ci, fs))) (kf : Nat) (hk : kf < N) (w : Cond.fieldLink own index ref (T kf).2.1 (T kf).2.2.1 ∈ gWs) (hr : (T kf).1 = ref) (hfin : (T kf).2.2.2 = false) (hd : ty0 kf = ty) (hn : narrow ty v = v) (hfit : fits ty v = true) (hl : kf < fs.length) (hw : (wG δ σ).set q (b, .inr (ci, fs.set kf v)) = wG δ σ') (k : gW Γ δ σ' (pc + 3) lv st) : gW Γ δ σ pc lv (v :: .ref b :: st) :=
  fun H locs ls hP hS hV => va_put C.1 C.2.1 C.2.2.2.2.1 hin ty0 hty hnm C.2.2.2.1 C.2.2.2.2.2.1 hP (gDj_D C.2.2.2.2.2.2.1) hS q ho hc kf hk (C.2.2.2.2.1 _ w) (by rw [hr]; exact fun _ h => h) hfin (by rw [hty kf hk, hd]) hn hfit hl d (fun H1 locs1 hP1 _ hS1 => k H1 locs1 ls (by rw [← hw]; exact hP1) hS1 hV)
theorem g_iald (C : gC Γ δ cc own nL fr lo) {i : Int32} {b : Nat} (q : Nat) (d : decode cc pc = .ok (.iaload, 1)) (hq : q < 60) (hb : b = δ.2.2.1 (22 + q)) (hin : vp_in i (gLenI q)) (k : gW Γ δ σ (pc + 1) lv (.int (gI σ q i.toNatClampNeg) :: st)) : gW Γ δ σ pc lv (.int i :: .ref b :: st) := by
  subst hb
  exact fun H locs ls hP hS hV => va_iald C.1 C.2.1 C.2.2.2.2.2.1 hP (22 + q) 0 (wG_I δ σ hq) rfl hin d (k H locs ls hP hS hV)
theorem g_lald (C : gC Γ δ cc own nL fr lo) {i : Int32} {b : Nat} (q : Nat) (d : decode cc pc = .ok (.laload, 1)) (hq : q < 17) (hb : b = δ.2.2.1 (82 + q)) (hin : vp_in i (gLenL q)) (k : gW Γ δ σ (pc + 1) lv (.long (gL σ q i.toNatClampNeg) :: st)) : gW Γ δ σ pc lv (.int i :: .ref b :: st) := by
  subst hb
  exact fun H locs ls hP hS hV => va_lald C.1 C.2.1 C.2.2.2.2.2.1 hP (82 + q) 1 (wG_L δ σ hq) rfl hin d (k H locs ls hP hS hV)
theorem g_iast (C : gC Γ δ cc own nL fr lo) {i x : Int32} {b : Nat} (q : Nat) (d : decode cc pc = .ok (.iastore, 1)) (hq : q < 60) (hb : b = δ.2.2.1 (22 + q)) (hin : vp_in i (gLenI q)) (k : gW Γ δ (uI σ q (upd (gI σ q) i.toNatClampNeg x)) (pc + 1) lv st) : gW Γ δ σ pc lv (.int x :: .int i :: .ref b :: st) := by
  subst hb
  exact fun H locs ls hP hS hV => va_iast C.1 C.2.1 C.2.2.2.2.2.1 hP (gDj_D C.2.2.2.2.2.2.1) hS (22 + q) 0 (wG_I δ σ hq) rfl hin d (fun H1 locs1 hP1 _ hS1 => k H1 locs1 ls (by rw [← wG_setI δ σ hq]; exact hP1) hS1 hV)
theorem g_last (C : gC Γ δ cc own nL fr lo) {i : Int32} {x : Int64} {b : Nat} (q : Nat) (d : decode cc pc = .ok (.lastore, 1)) (hq : q < 17) (hb : b = δ.2.2.1 (82 + q)) (hin : vp_in i (gLenL q)) (k : gW Γ δ (uL σ q (vp_updL (gL σ q) i.toNatClampNeg x)) (pc + 1) lv st) : gW Γ δ σ pc lv (.long x :: .int i :: .ref b :: st) := by
  subst hb
  exact fun H locs ls hP hS hV => va_last C.1 C.2.1 C.2.2.2.2.2.1 hP (gDj_D C.2.2.2.2.2.2.1) hS (82 + q) 1 (wG_L δ σ hq) rfl hin d (fun H1 locs1 hP1 _ hS1 => k H1 locs1 ls (by rw [← wG_setL δ σ hq]; exact hP1) hS1 hV)
theorem g_alenI (C : gC Γ δ cc own nL fr lo) {b : Nat} (q : Nat) (d : decode cc pc = .ok (.arraylength, 1)) (hq : q < 60) (hb : b = δ.2.2.1 (22 + q)) (k : gW Γ δ σ (pc + 1) lv (.int (nI (gLenI q)) :: st)) : gW Γ δ σ pc lv (.ref b :: st) := by
  subst hb
  exact fun H locs ls hP hS hV => va_alen C.1 C.2.1 C.2.2.2.2.2.1 hP (22 + q) 0 (wG_I δ σ hq) rfl rfl d (k H locs ls hP hS hV)
theorem g_alenL (C : gC Γ δ cc own nL fr lo) {b : Nat} (q : Nat) (d : decode cc pc = .ok (.arraylength, 1)) (hq : q < 17) (hb : b = δ.2.2.1 (82 + q)) (k : gW Γ δ σ (pc + 1) lv (.int (nI (gLenL q)) :: st)) : gW Γ δ σ pc lv (.ref b :: st) := by
  subst hb
  exact fun H locs ls hP hS hV => va_alen C.1 C.2.1 C.2.2.2.2.2.1 hP (82 + q) 1 (wG_L δ σ hq) rfl rfl d (k H locs ls hP hS hV)
theorem g_aaldS (C : gC Γ δ cc own nL fr lo) {i : Int32} {b : Nat} (u : Nat) (d : decode cc pc = .ok (.aaload, 1)) (hb : b = δ.2.2.1 99) (hu : u < 6) (hi : i = nI u) (k : gW Γ δ σ (pc + 1) lv (.ref (δ.2.2.1 (2 + u)) :: st)) : gW Γ δ σ pc lv (.int i :: .ref b :: st) := by
  subst hb
  subst hi
  intro H locs ls hP hS hV
  refine va_aldq C.1 C.2.1 C.2.2.2.2.2.1 hP 99 2 (wR_S δ σ) rfl (vp_in_nI hu (by omega)) d ?_
  rw [nI_clamp (by omega), if_pos hu]
  exact k H locs ls hP hS hV
theorem g_aaldU (C : gC Γ δ cc own nL fr lo) {i : Int32} {b : Nat} (u : Nat) (d : decode cc pc = .ok (.aaload, 1)) (hb : b = δ.2.2.1 100) (hu : u < 8) (hi : i = nI u) (k : gW Γ δ σ (pc + 1) lv (.ref (δ.2.2.1 (8 + u)) :: st)) : gW Γ δ σ pc lv (.int i :: .ref b :: st) := by
  subst hb
  subst hi
  intro H locs ls hP hS hV
  refine va_aldq C.1 C.2.1 C.2.2.2.2.2.1 hP 100 3 (wR_U δ σ) rfl (vp_in_nI hu (by omega)) d ?_
  rw [nI_clamp (by omega), if_pos hu]
  exact k H locs ls hP hS hV
theorem g_aaldK (C : gC Γ δ cc own nL fr lo) {i : Int32} {b : Nat} (u : Nat) (d : decode cc pc = .ok (.aaload, 1)) (hb : b = δ.2.2.1 101) (hu : u < 20) (hi : i = nI u) (k : gW Γ δ σ (pc + 1) lv (.ref (δ.2.2.1 (46 + u)) :: st)) : gW Γ δ σ pc lv (.int i :: .ref b :: st) := by
  subst hb
  subst hi
  intro H locs ls hP hS hV
  refine va_aldA C.1 C.2.1 C.2.2.2.2.2.1 hP 101 4 (wR_K δ σ) rfl (vp_in_nI hu (by omega)) d ?_
  rw [nI_clamp (by omega), if_pos hu]
  exact k H locs ls hP hS hV
theorem g_gets (C : gC Γ δ cc own nL fr lo) {index : Nat} (d : decode cc pc = .ok (.getstatic index, 3)) (w : Cond.fieldLink own index "GrowingUrns$After" "STEPS" "[I" ∈ gWs) (k : gW Γ δ σ (pc + 3) lv (.ref δ.2.2.2.1 :: st)) : gW Γ δ σ pc lv st :=
  fun H locs ls hP hS hV => va_gets C.1 C.2.1 C.2.2.2.2.2.2.2.1.1.1 hS C.2.2.2.1 (C.2.2.2.2.1 _ w) (fun _ h => h) d (k H locs ls hP hS hV)
theorem g_getsO (C : gC Γ δ cc own nL fr lo) {index : Nat} (d : decode cc pc = .ok (.getstatic index, 3)) (w : Cond.fieldLink own index "GrowingUrns$Orders" "STEPS" "[I" ∈ gWs) (k : gW Γ δ σ (pc + 3) lv (.ref δ.2.2.2.2 :: st)) : gW Γ δ σ pc lv st :=
  fun H locs ls hP hS hV => va_gets C.1 C.2.1 C.2.2.2.2.2.2.2.1.2.1 hS C.2.2.2.1 (C.2.2.2.2.1 _ w) (fun _ h => h) d (k H locs ls hP hS hV)
theorem g_stald (C : gC Γ δ cc own nL fr lo) {i v : Int32} (d : decode cc pc = .ok (.iaload, 1)) (hin : vp_in i 4) (hv : gStep i.toNatClampNeg = .int v) (k : gW Γ δ σ (pc + 1) lv (.int v :: st)) : gW Γ δ σ pc lv (.int i :: .ref δ.2.2.2.1 :: st) :=
  fun H locs ls hP hS hV => va_ti C.1 C.2.1 C.2.2.2.2.2.2.2.1.1.2 hS hin hv d (k H locs ls hP hS hV)
theorem g_staldO (C : gC Γ δ cc own nL fr lo) {i v : Int32} (d : decode cc pc = .ok (.iaload, 1)) (hin : vp_in i 4) (hv : gStepO i.toNatClampNeg = .int v) (k : gW Γ δ σ (pc + 1) lv (.int v :: st)) : gW Γ δ σ pc lv (.int i :: .ref δ.2.2.2.2 :: st) :=
  fun H locs ls hP hS hV => va_ti C.1 C.2.1 C.2.2.2.2.2.2.2.1.2.2 hS hin hv d (k H locs ls hP hS hV)
end GR
end
section
section GR2
variable {Γ : GX} {δ : GD} {σ : GS} {cc : ByteArray} {own : String} {nL fr lo pc : Nat} {lv : List (Option Value)} {st : List Value}
theorem g_ifnull_n (C : gC Γ δ cc own nL fr lo) {off : Int} (tgt : Nat) (d : decode cc pc = .ok (.ifnull off, 3)) (ht : (pc : Int) + off = (tgt : Int)) (k : gW Γ δ σ tgt lv st) : gW Γ δ σ pc lv (.null :: st) :=
  fun H locs ls hP hS hV => lv_ifnullN C.1 C.2.1 d ht (k H locs ls hP hS hV)
theorem g_ifnonnull_n (C : gC Γ δ cc own nL fr lo) {off : Int} (d : decode cc pc = .ok (.ifnonnull off, 3)) (k : gW Γ δ σ (pc + 3) lv st) : gW Γ δ σ pc lv (.null :: st) :=
  fun H locs ls hP hS hV => lv_ifnonnullN C.1 C.2.1 d (k H locs ls hP hS hV)
theorem g_aload_nN (C : gC Γ δ cc own nL fr lo) {i : Fin 4} (d : decode cc pc = .ok (.aload_n i, 1)) (h : lv[(i : Nat)]? = some (some .null)) (k : gW Γ δ σ (pc + 1) lv (.null :: st)) : gW Γ δ σ pc lv st :=
  fun H locs ls hP hS hV => lv_aload_nN C.1 C.2.1 d rfl (hV.2.2 _ _ h) (k H locs ls hP hS hV)
theorem g_aloadN (C : gC Γ δ cc own nL fr lo) {i : Nat} (d : decode cc pc = .ok (.aload i, 2)) (h : lv[i]? = some (some .null)) (k : gW Γ δ σ (pc + 2) lv (.null :: st)) : gW Γ δ σ pc lv st :=
  fun H locs ls hP hS hV => lv_aloadN C.1 C.2.1 d (hV.2.2 _ _ h) (k H locs ls hP hS hV)
theorem g_astore_nN (C : gC Γ δ cc own nL fr lo) {i : Fin 4} (d : decode cc pc = .ok (.astore_n i, 1)) (hi : (i : Nat) < lv.length) (hc : gCutB lv i = true) (k : gW Γ δ σ (pc + 1) (gSt1 lv i .null) st) : gW Γ δ σ pc lv (.null :: st) :=
  fun H locs ls hP hS hV => lv_astore_nN C.1 C.2.1 d rfl hV.has hi rfl (fun ls' h' => k H locs ls' hP hS (gV.st1 (ls := ls) hc hi h'))
theorem g_astoreN (C : gC Γ δ cc own nL fr lo) {i : Nat} (d : decode cc pc = .ok (.astore i, 2)) (hi : (i : Nat) < lv.length) (hc : gCutB lv i = true) (k : gW Γ δ σ (pc + 2) (gSt1 lv i .null) st) : gW Γ δ σ pc lv (.null :: st) :=
  fun H locs ls hP hS hV => lv_astoreN C.1 C.2.1 d hV.has hi rfl (fun ls' h' => k H locs ls' hP hS (gV.st1 (ls := ls) hc hi h'))
theorem g_lcmp (C : gC Γ δ cc own nL fr lo) {x y : Int64} (d : decode cc pc = .ok (.lcmp, 1)) (k : gW Γ δ σ (pc + 1) lv (.int (lg_cmp x y) :: st)) : gW Γ δ σ pc lv (.long y :: .long x :: st) :=
  fun H locs ls hP hS hV => W.lcmp C.1 C.2.1 d (k H locs ls hP hS hV)
-- arrays copied
theorem g_copyI (C : gC Γ δ cc own nL fr lo) {index : Nat} {sp dp n : Int32} {b0 b1 : Nat} (q0 q1 : Nat) (d : decode cc pc = .ok (.invokestatic index, 3)) (w : Cond.methodLink own index arraycopyName ∈ gWs) (w1 : Cond.native arraycopyName ∈ gWs) (w2 : Cond.static arraycopyName ∈ gWs) (w3 : Cond.initialized "java/lang/System" ∈ gWs)
    (h0 : q0 < 60) (h1 : q1 < 60) (hb0 : b0 = δ.2.2.1 (22 + q0)) (hb1 : b1 = δ.2.2.1 (22 + q1)) (hlv : lv.length = nL) (hsp : ¬ sp < 0) (hdp : ¬ dp < 0) (hn : ¬ n < 0) (h4 : sp.toNatClampNeg + n.toNatClampNeg ≤ gLenI q0) (h5 : dp.toNatClampNeg + n.toNatClampNeg ≤ gLenI q1) (hfr : 1 ≤ fr) (hlo : (st.map fun v => v.category).sum + (nativeFrameWords "java/lang/System" "arraycopy" 5 + 11) ≤ lo)
    (k : gW Γ δ (uI σ q1 (va_cpy (gI σ q0) (gI σ q1) sp.toNatClampNeg dp.toNatClampNeg n.toNatClampNeg)) (pc + 3) lv st) : gW Γ δ σ pc lv (.int n :: .int dp :: .ref b1 :: .int sp :: .ref b0 :: st) := by
  subst hb0
  subst hb1
  exact fun H locs ls hP hS hV => va_copyi C.1 C.2.1 (by rw [C.2.2.1, hV.1, hlv]) C.2.2.2.1 (C.2.2.2.2.1 _ w) (C.2.2.2.2.1 _ w1) (C.2.2.2.2.1 _ w2) (C.2.2.2.2.1 _ w3) C.2.2.2.2.2.1 hP (gDj_D C.2.2.2.2.2.2.1) hS (22 + q0) (22 + q1) 0 0 (wG_I δ σ h0) (wG_I δ σ h1) rfl rfl rfl hsp hdp hn h4 h5 (fun _ _ => rfl) (Nat.le_trans hfr C.2.2.2.2.2.2.2.2.2.1.1) (Nat.le_trans hlo C.2.2.2.2.2.2.2.2.2.1.2) d (fun H1 locs1 hP1 _ hS1 => k H1 locs1 ls (by rw [← wG_setI δ σ h1]; exact hP1) hS1 hV)
theorem g_copyL (C : gC Γ δ cc own nL fr lo) {index : Nat} {sp dp n : Int32} {b0 b1 : Nat} (q0 q1 : Nat) (d : decode cc pc = .ok (.invokestatic index, 3)) (w : Cond.methodLink own index arraycopyName ∈ gWs) (w1 : Cond.native arraycopyName ∈ gWs) (w2 : Cond.static arraycopyName ∈ gWs) (w3 : Cond.initialized "java/lang/System" ∈ gWs)
    (h0 : q0 < 17) (h1 : q1 < 17) (hb0 : b0 = δ.2.2.1 (82 + q0)) (hb1 : b1 = δ.2.2.1 (82 + q1)) (hlv : lv.length = nL) (hsp : ¬ sp < 0) (hdp : ¬ dp < 0) (hn : ¬ n < 0) (h4 : sp.toNatClampNeg + n.toNatClampNeg ≤ gLenL q0) (h5 : dp.toNatClampNeg + n.toNatClampNeg ≤ gLenL q1) (hfr : 1 ≤ fr) (hlo : (st.map fun v => v.category).sum + (nativeFrameWords "java/lang/System" "arraycopy" 5 + 11) ≤ lo)
    (k : gW Γ δ (uL σ q1 (va_cpy (gL σ q0) (gL σ q1) sp.toNatClampNeg dp.toNatClampNeg n.toNatClampNeg)) (pc + 3) lv st) : gW Γ δ σ pc lv (.int n :: .int dp :: .ref b1 :: .int sp :: .ref b0 :: st) := by
  subst hb0
  subst hb1
  exact fun H locs ls hP hS hV => va_copyl C.1 C.2.1 (by rw [C.2.2.1, hV.1, hlv]) C.2.2.2.1 (C.2.2.2.2.1 _ w) (C.2.2.2.2.1 _ w1) (C.2.2.2.2.1 _ w2) (C.2.2.2.2.1 _ w3) C.2.2.2.2.2.1 hP (gDj_D C.2.2.2.2.2.2.1) hS (82 + q0) (82 + q1) 1 1 (wG_L δ σ h0) (wG_L δ σ h1) rfl rfl rfl hsp hdp hn h4 h5 (fun _ _ => rfl) (Nat.le_trans hfr C.2.2.2.2.2.2.2.2.2.1.1) (Nat.le_trans hlo C.2.2.2.2.2.2.2.2.2.1.2) d (fun H1 locs1 hP1 _ hS1 => k H1 locs1 ls (by rw [← wG_setL δ σ h1]; exact hP1) hS1 hV)
end GR2
-- CONTRACTS: post speaks of what comes back, and of the new state
def gB (δ : GD) (σ : GS) (U : State) : Prop := va_P δ.1 vwCl (wG δ σ) U.heap ∧ va_K δ.1 vwCl (gT δ.2.1) U ∧ gDj δ ∧ gStat δ U U.heap U.heap.size ∧ gNest U
def gQ (δ : GD) (A : Nat → Prop) (post : Option Value → GS → Prop) : Array Value → State → Outcome → State → Prop := fun _ s o t => (∃ (rv : Option Value) (σ' : GS), o = .returned rv ∧ post rv σ' ∧ va_P δ.1 vwCl (wG δ σ') t.heap) ∧ va_F A s t
def gM (l : Launch) (δ : GD) (y : MethodName) (c : ByteArray) (n : Nat) (ret : Option FieldType) (fr lo : Nat) (av : List Value) (σ : GS) (post : Option Value → GS → Prop) : Prop :=
  ∀ sz : Nat, Met l y (.code y c n ret :: gWs) { frames := fr, cells := 0, slots := 0, locals := lo } (va_Pc av (fun U => U.heap.size = sz ∧ gB δ σ U)) (gQ δ (gA δ sz) post) 0 0 (gA δ sz)
def gPi (p : Int32 → GS → Prop) : Option Value → GS → Prop := fun rv σ => ∃ r : Int32, rv = some (.int r) ∧ p r σ
def gPl (p : Int64 → GS → Prop) : Option Value → GS → Prop := fun rv σ => ∃ r : Int64, rv = some (.long r) ∧ p r σ
def gPv (p : GS → Prop) : Option Value → GS → Prop := fun rv σ => rv = none ∧ p σ
def gPr (p : Value → GS → Prop) : Option Value → GS → Prop := fun rv σ => ∃ r : Value, rv = some r ∧ p r σ
/-- the end: what Q is, in a method's own run -/
def gEnd (Γ : GX) (δ : GD) (ret : Option FieldType) (post : Option Value → GS → Prop) : Prop :=
  Γ.2.2.1.2.2 = MQ Γ.2.1.2.2.2 (gQ δ (gA δ Γ.2.1.1.heap.size) post) Γ.2.1.2.2.1 Γ.2.1.1 0 0 (gA δ Γ.2.1.1.heap.size) ∧ Γ.2.2.2 = (0, 0) ∧ Γ.2.2.1.1.sig.returnType = ret ∧ Γ.2.2.1.1.locks = false
def gArgs : List Value → List (Option Value)
  | [] => []
  | v :: vs => some v :: (if v.category = 2 then none :: gArgs vs else gArgs vs)
theorem gArgs_in : ∀ (vs : List Value) (o i : Nat) (v : Value), (gArgs vs)[i]? = some (some v) → (i + o, v) ∈ lv_args o vs
  | [], o, i, v, h => by simp [gArgs] at h
  | w :: vs, o, i, v, h => by
    unfold lv_args
    cases i with
    | zero =>
      simp only [gArgs, List.getElem?_cons_zero, Option.some.injEq] at h
      subst h
      rw [Nat.zero_add]
      exact List.mem_cons_self
    | succ i =>
      refine List.mem_cons_of_mem _ ?_
      by_cases hc : w.category = 2
      · simp only [gArgs, hc, if_true, List.getElem?_cons_succ] at h ⊢
        cases i with
        | zero => simp at h
        | succ i =>
          rw [List.getElem?_cons_succ] at h
          have := gArgs_in vs (o + 2) i v h
          rwa [show i + (o + 2) = i + 1 + 1 + o by omega] at this
      · simp only [gArgs, hc, if_false, List.getElem?_cons_succ] at h ⊢
        have := gArgs_in vs (o + 1) i v h
        rwa [show i + (o + 1) = i + 1 + o by omega] at this
theorem gArgs_len : ∀ vs : List Value, (gArgs vs).length = (lg_sl vs).length
  | [] => rfl
  | v :: vs => by
    have := gArgs_len vs
    by_cases hc : v.category = 2
    · simp only [gArgs, lg_sl, List.flatMap_cons, hc, if_true, List.length_cons, List.length_append, List.length_nil, this]
      omega
    · simp only [gArgs, lg_sl, List.flatMap_cons, hc, if_false, List.length_cons, List.length_append, List.length_nil, this]
      omega
theorem g_of {l : Launch} {δ : GD} {y : MethodName} {c : ByteArray} {n : Nat} {ret : Option FieldType} {fr lo : Nat} {av : List Value} {σ : GS} {post : Option Value → GS → Prop} {lv0 : List (Option Value)}
    (hy : plainName y.cls = true) (hlv : gArgs av ++ List.replicate (n - (gArgs av).length) none = lv0) (hle : (gArgs av).length ≤ n)
    (body : ∀ Γ : GX, Γ.1.2.1 = l → gC Γ δ c y.cls n fr lo → gEnd Γ δ ret post → gW Γ δ σ 0 lv0 []) : gM l δ y c n ret fr lo av σ post := by
  intro sz
  refine Met.ofW (cc := c) (maxL := n) (ret := ret) hy rfl ?_
  intro p e s m args below meth cd s₁ B hml hv
  obtain ⟨rfl, hsz, hP, hK, hJ, hZ, hN⟩ := hv
  subst hsz
  have hts := atoms_spec (ws := .code y c n ret :: gWs) B.pre
  have hl := lv_entry av (n := n) (by rw [← gArgs_len]; exact hle)
  rw [lg_entry_eq]
  have hV : gV ((lg_sl av ++ List.replicate (n - (lg_sl av).length) Slot.unset).toArray) lv0 := by
    refine gV.of hl (by rw [← hlv, List.length_append, List.length_replicate]; omega) (fun i v h => ?_)
    rw [← hlv] at h
    by_cases hi : i < (gArgs av).length
    · rw [List.getElem?_append_left hi] at h
      exact gArgs_in av 0 i v h
    · rw [List.getElem?_append_right (by omega)] at h
      have := List.eq_of_mem_replicate (List.mem_of_getElem? h)
      cases this
  exact body ((p, l, e, _), (s, m, av.toArray, below), (meth, cd, _), (0, 0)) rfl
    ⟨B.exec, B.bytes, hml, findClass_of_methodNamed B.named, fun w hw => hts w (List.mem_cons_of_mem _ hw), hK, hJ, hZ, hN, ⟨Nat.le_refl _, Nat.le_refl _⟩, ⟨Nat.le_refl _, Nat.le_refl _⟩⟩
    ⟨rfl, rfl, B.returns, B.notSynchronized⟩ s.heap [] _ hP va_S.rf hV
-- RETURNS
section GRET
variable {Γ : GX} {δ : GD} {σ : GS} {cc : ByteArray} {own : String} {nL fr lo pc : Nat} {lv : List (Option Value)} {st : List Value} {ret : Option FieldType} {post : Option Value → GS → Prop}
theorem g_iret (C : gC Γ δ cc own nL fr lo) (E : gEnd Γ δ ret post) {v : Int32} {ty : FieldType} (d : decode cc pc = .ok (.ireturn, 1)) (hr : ret = some ty) (hn : narrow ty (.int v) = .int v) (hp : post (some (.int v)) σ) : gW Γ δ σ pc lv [.int v] := by
  intro H locs ls hP hS hV
  obtain ⟨e1, e2, e3, e4⟩ := E
  rw [e1]
  have h0 : Γ.2.2.2.1 = 0 := by rw [e2]
  have h1 : Γ.2.2.2.2 = 0 := by rw [e2]
  rw [h0, h1]
  exact W.zret C.1 C.2.1 (e3.trans hr) hn (fun t ht hW => ⟨⟨_, σ, rfl, hp, by rw [ht]; exact hP⟩, hS.F ht⟩) hS.2.2 d e4
theorem g_lret (C : gC Γ δ cc own nL fr lo) (E : gEnd Γ δ ret post) {v : Int64} (d : decode cc pc = .ok (.lreturn, 1)) (hr : ret = some .long) (hp : post (some (.long v)) σ) : gW Γ δ σ pc lv [.long v] := by
  intro H locs ls hP hS hV
  obtain ⟨e1, e2, e3, e4⟩ := E
  rw [e1]
  have h0 : Γ.2.2.2.1 = 0 := by rw [e2]
  have h1 : Γ.2.2.2.2 = 0 := by rw [e2]
  rw [h0, h1]
  exact W.lret C.1 C.2.1 (e3.trans hr) (fun t ht hW => ⟨⟨_, σ, rfl, hp, by rw [ht]; exact hP⟩, hS.F ht⟩) hS.2.2 d e4
theorem g_vret (C : gC Γ δ cc own nL fr lo) (E : gEnd Γ δ ret post) (d : decode cc pc = .ok (.return_, 1)) (hr : ret = none) (hp : post none σ) : gW Γ δ σ pc lv [] := by
  intro H locs ls hP hS hV
  obtain ⟨e1, e2, e3, e4⟩ := E
  rw [e1]
  have h0 : Γ.2.2.2.1 = 0 := by rw [e2]
  have h1 : Γ.2.2.2.2 = 0 := by rw [e2]
  rw [h0, h1]
  exact W.vret C.1 C.2.1 (e3.trans hr) (fun t ht hW => ⟨⟨_, σ, rfl, hp, by rw [ht]; exact hP⟩, hS.F ht⟩) hS.2.2 d e4
theorem g_aret (C : gC Γ δ cc own nL fr lo) (E : gEnd Γ δ ret post) {v : Value} {rt : FieldType} (d : decode cc pc = .ok (.areturn, 1)) (hr : ret = some rt) (hrt : (∃ n, rt = .object n) ∨ ∃ t, rt = .array t) (hv : v = .null ∨ ∃ a, v = .ref a) (hp : post (some v) σ) : gW Γ δ σ pc lv [v] := by
  intro H locs ls hP hS hV
  obtain ⟨e1, e2, e3, e4⟩ := E
  rw [e1]
  have h0 : Γ.2.2.2.1 = 0 := by rw [e2]
  have h1 : Γ.2.2.2.2 = 0 := by rw [e2]
  rw [h0, h1]
  exact W.aret C.1 C.2.1 (e3.trans hr) hrt hv (fun t ht hW => ⟨⟨_, σ, rfl, hp, by rw [ht]; exact hP⟩, hS.F ht⟩) hS.2.2 d e4
end GRET
-- CALLS
theorem gB_calling {δ : GD} {σ : GS} {U : State} {g : JFrame} {mk : MethodId} {a : Array Value} (h : gB δ σ U) : gB δ σ (U.calling g mk a) :=
  ⟨h.1, va_K.moved (u := U) (U := U.calling g mk a) (Vm.Alike.refl U.vm) h.2.1, h.2.2.1, gStat.moved (u := U) (U := U.calling g mk a) (Vm.Alike.refl U.vm) h.2.2.2.1, h.2.2.2.2.calling⟩
theorem gPc_blind {δ : GD} {σ : GS} {av : List Value} {sz : Nat} : FrameBlind (va_Pc av (fun U => U.heap.size = sz ∧ gB δ σ U)) :=
  fun _ _ _ _ h => ⟨h.1, h.2.1, gB_calling h.2.2⟩
/-- the words of a call of an own class's method, by instance -/
def gSV (own : String) (idx : Nat) (y : MethodName) (c : ByteArray) (n : Nat) (ret : Option FieldType) (k : Nat) : Prop :=
  Cond.methodLink own idx y ∈ gWs ∧ Cond.instanceMethod y ∈ gWs ∧ Cond.selects y.cls y y ∈ gWs ∧ Cond.initialized y.cls ∈ gWs ∧ Cond.code y c n ret ∈ gWs ∧ (y.cls ≠ "java/lang/invoke/MethodHandle" ∧ y.cls ≠ "java/lang/invoke/VarHandle") ∧ (parseMethodDescriptor y.desc).map (fun d => d.parameters.length) = some k
def gSS (own : String) (idx : Nat) (y : MethodName) (c : ByteArray) (n : Nat) (ret : Option FieldType) (k : Nat) : Prop :=
  Cond.methodLink own idx y ∈ gWs ∧ Cond.static y ∈ gWs ∧ Cond.initialized y.cls ∈ gWs ∧ Cond.code y c n ret ∈ gWs ∧ (y.cls ≠ "java/lang/invoke/MethodHandle" ∧ y.cls ≠ "java/lang/invoke/VarHandle") ∧ (parseMethodDescriptor y.desc).map (fun d => d.parameters.length) = some k
theorem gWs_code {y : MethodName} {c : ByteArray} {n : Nat} {ret : Option FieldType} (h : Cond.code y c n ret ∈ gWs) : GoodIn gWs (.code y c n ret :: gWs) := fun w hw => (List.mem_cons.mp hw).elim (fun e => by rw [e]; exact gWs_good _ h) (gWs_good w)
section GCALL
variable {Γ : GX} {δ : GD} {σ : GS} {cc : ByteArray} {own : String} {nL fr lo pc : Nat} {lv : List (Option Value)} {st st' rest As : List Value} {y : MethodName} {c : ByteArray} {n : Nat} {ret : Option FieldType} {fr' lo' idx k b : Nat} {post : Option Value → GS → Prop}
theorem gB_at (C : gC Γ δ cc own nL fr lo) {H : Heap} {locs : List Loc} (hP : va_P δ.1 vwCl (wG δ σ) H) (hS : va_S (gA δ Γ.2.1.1.heap.size) Γ.2.1.1.heap H locs) {U : State} (hU : U.heap = H) (hW : Γ.2.1.1.WarmedH U.vm) : U.heap.size = H.size ∧ gB δ σ U :=
  ⟨by rw [hU], by rw [hU]; exact hP, va_K.moved hW.alike C.2.2.2.2.2.1, C.2.2.2.2.2.2.1, by rw [hU]; exact ((C.2.2.2.2.2.2.2.1.kept hS.2.1).mono hS.1).moved hW.alike, C.2.2.2.2.2.2.2.2.1.warm hW⟩
/-- behind a call: any answer that the callee's post allows -/
theorem g_back {H : Heap} {locs : List Loc} {ls : Array Slot} {g : Nat} (hP : va_P δ.1 vwCl (wG δ σ) H) (hS : va_S (gA δ Γ.2.1.1.heap.size) Γ.2.1.1.heap H locs) (hV : gV ls lv)
    {av : Array Value} (hr : va_Run Γ.1.1 Γ.1.2.1 Γ.1.2.2.1 Γ.1.2.2.2 Γ.2.1.1 Γ.2.1.2.1 Γ.2.1.2.2.1 Γ.2.1.2.2.2 Γ.2.2.1.1 Γ.2.2.1.2.1 H locs Γ.2.2.2.1 Γ.2.2.2.2 0 0 (F0 Γ.2.1.2.1 pc ls st) rest (gQ δ (gA δ H.size) post av) (gA δ H.size))
    (kk : ∀ (rv : Option Value) (σ' : GS), post rv σ' → gW Γ δ σ' (pc + 3) lv (rv.toList ++ rest)) :
    W Γ.1.1 Γ.1.2.1 Γ.1.2.2.1 Γ.1.2.2.2 Γ.2.1.1 Γ.2.1.2.1 Γ.2.1.2.2.1 Γ.2.1.2.2.2 Γ.2.2.1.1 Γ.2.2.1.2.1 H locs Γ.2.2.2.1 Γ.2.2.2.2 Γ.2.2.1.2.2 (F0 Γ.2.1.2.1 pc ls st) := by
  intro T hT X
  obtain ⟨v, st₀, t, T', L, h0, X', hL, e1, e2, ⟨⟨rv, σ', hv, hp, hb⟩, hz, hk⟩, go⟩ := hr T hT X
  cases hv
  rw [h0] at hz hk
  rw [← e1] at hb hz
  obtain ⟨t2, a1, b1⟩ := kk v σ' hp T'.heap (locs ++ L) ls hb
    ⟨Nat.le_trans hS.1 hz, fun q h1 h2 => by rw [e1, hk q (Nat.lt_of_lt_of_le h1 hS.1) (fun z => h2 (gA_mono hS.1 z))]; exact hS.2.1 q h1 h2, fun q hq => by
      rcases List.mem_append.mp hq with h | h
      · exact hS.2.2 q h
      · exact gA_mono hS.1 (hL q h)⟩ hV T' rfl X'
  exact ⟨t2, go t2 a1, b1⟩
theorem g_callV (C : gC Γ δ cc own nL fr lo) (hs : gSV own idx y c n ret k) (d : decode cc pc = .ok (.invokevirtual idx, 3)) (hM : gM Γ.1.2.1 δ y c n ret fr' lo' (.ref b :: As) σ post) (hroom : fr' + 1 ≤ fr ∧ 8 + (n + 11) + lo' ≤ lo) {q ci N : Nat} {T : u_T} {fs : List Value} (ho : (wG δ σ)[q]? = some (b, .inr (ci, fs))) (hc : vwCl[ci]? = some (y.cls, T, N)) (hlv : lv.length = nL) (hn : As.length = k) (hst : st = As.reverse ++ .ref b :: rest) (hrest : (rest.map fun v => v.category).sum ≤ 8)
    (kk : ∀ (rv : Option Value) (σ' : GS), post rv σ' → gW Γ δ σ' (pc + 3) lv (rv.toList ++ rest)) : gW Γ δ σ pc lv st := by
  intro H locs ls hP hS hV
  obtain ⟨w1, w2, w3, w4, w5, w6, w7⟩ := hs
  have hG : GoodIn gWs (wsV own idx y.cls y (.code y c n ret :: gWs)) := fun w hw => by
    unfold wsV at hw
    rcases List.mem_append.mp hw with h | h
    · rcases List.mem_cons.mp h with rfl | h
      · exact gWs_good _ w1
      rcases List.mem_cons.mp h with rfl | h
      · exact gWs_good _ w2
      rcases List.mem_cons.mp h with rfl | h
      · exact gWs_good _ w3
      rcases List.mem_cons.mp h with rfl | h
      · exact gWs_good _ w4
      cases h
    · exact gWs_code w5 w h
  have hR : fr' + 1 ≤ Γ.1.2.2.2.frames ∧ 8 + (n + 11) + lo' ≤ Γ.1.2.2.2.locals := ⟨Nat.le_trans hroom.1 C.2.2.2.2.2.2.2.2.2.1.1, Nat.le_trans hroom.2 C.2.2.2.2.2.2.2.2.2.1.2⟩
  refine g_back (g := 0) hP hS hV (av := (Value.ref b :: As).toArray) (va_runV (As := As) (rest := rest) (C := y.cls) ⟨C.1, C.2.1, C.2.2.1, C.2.2.2.1, C.2.2.2.2.1⟩ (hM H.size)
    (cwV k C.2.2.2.2.1 hG rfl rfl rfl ⟨rfl, w6.1, w6.2, w7⟩ hR) ⟨gPc_blind, va_recv C.2.2.2.2.2.1 hP hc ho, fun U hU hW => ⟨rfl, gB_at C hP hS hU hW⟩⟩ rfl hn (hV.1.trans hlv) hst (lv_room hrest) d ⟨C.2.2.2.2.2.2.2.2.2.2.1, C.2.2.2.2.2.2.2.2.2.2.2⟩) kk
theorem g_callS (C : gC Γ δ cc own nL fr lo) (hs : gSS own idx y c n ret k) (d : decode cc pc = .ok (.invokestatic idx, 3)) (hM : gM Γ.1.2.1 δ y c n ret fr' lo' As σ post) (hroom : fr' + 1 ≤ fr ∧ 8 + (n + 11) + lo' ≤ lo) (hlv : lv.length = nL) (hn : As.length = k) (hst : st = As.reverse ++ rest) (hrest : (rest.map fun v => v.category).sum ≤ 8)
    (kk : ∀ (rv : Option Value) (σ' : GS), post rv σ' → gW Γ δ σ' (pc + 3) lv (rv.toList ++ rest)) : gW Γ δ σ pc lv st := by
  intro H locs ls hP hS hV
  obtain ⟨w1, w2, w4, w5, w6, w7⟩ := hs
  have hR : fr' + 1 ≤ Γ.1.2.2.2.frames ∧ 8 + (n + 11) + lo' ≤ Γ.1.2.2.2.locals := ⟨Nat.le_trans hroom.1 C.2.2.2.2.2.2.2.2.2.1.1, Nat.le_trans hroom.2 C.2.2.2.2.2.2.2.2.2.1.2⟩
  refine g_back (g := 0) hP hS hV (av := As.toArray) (va_runS (As := As) (rest := rest) ⟨C.1, C.2.1, C.2.2.1, C.2.2.2.1, C.2.2.2.2.1⟩ (hM H.size)
    ⟨callB_of k C.2.2.2.2.1 (gWs_code w5) rfl rfl rfl (C.2.2.2.2.1 _ w4) (C.2.2.2.2.1 _ w1) ⟨w6.1, w6.2, w7⟩ hR, C.2.2.2.2.1 _ w2⟩ ⟨gPc_blind, fun U hU hW => ⟨rfl, gB_at C hP hS hU hW⟩⟩ rfl hn (hV.1.trans hlv) hst (lv_room hrest) d ⟨C.2.2.2.2.2.2.2.2.2.2.1, C.2.2.2.2.2.2.2.2.2.2.2⟩) kk
/-- a static method of a nest mate -/
theorem g_callN (C : gC Γ δ cc own nL fr lo) {host : String} (hs : Cond.static y ∈ gWs ∧ Cond.initialized y.cls ∈ gWs ∧ Cond.code y c n ret ∈ gWs ∧ (y.cls ≠ "java/lang/invoke/MethodHandle" ∧ y.cls ≠ "java/lang/invoke/VarHandle") ∧ (parseMethodDescriptor y.desc).map (fun d => d.parameters.length) = some k) (hl : va_Nw (.methodLinkNest own idx y host) Γ.2.1.1) (d : decode cc pc = .ok (.invokestatic idx, 3)) (hM : gM Γ.1.2.1 δ y c n ret fr' lo' As σ post) (hroom : fr' + 1 ≤ fr ∧ 8 + (n + 11) + lo' ≤ lo) (hlv : lv.length = nL) (hn : As.length = k) (hst : st = As.reverse ++ rest) (hrest : (rest.map fun v => v.category).sum ≤ 8)
    (kk : ∀ (rv : Option Value) (σ' : GS), post rv σ' → gW Γ δ σ' (pc + 3) lv (rv.toList ++ rest)) : gW Γ δ σ pc lv st := by
  intro H locs ls hP hS hV
  obtain ⟨w2, w4, w5, w6, w7⟩ := hs
  have hR : fr' + 1 ≤ Γ.1.2.2.2.frames ∧ 8 + (n + 11) + lo' ≤ Γ.1.2.2.2.locals := ⟨Nat.le_trans hroom.1 C.2.2.2.2.2.2.2.2.2.1.1, Nat.le_trans hroom.2 C.2.2.2.2.2.2.2.2.2.1.2⟩
  refine g_back (g := 0) hP hS hV (av := As.toArray) (va_runSN (As := As) (rest := rest) ⟨C.1, C.2.1, C.2.2.1, C.2.2.2.1, C.2.2.2.2.1⟩ (hM H.size)
    ⟨va_cnB k C.2.2.2.2.1 (gWs_code w5) rfl rfl rfl hl (C.2.2.2.2.1 _ w4) ⟨w6.1, w6.2, w7⟩ hR, C.2.2.2.2.1 _ w2, trivial⟩ ⟨gPc_blind, fun U hU hW => ⟨rfl, gB_at C hP hS hU hW⟩⟩ rfl hn (hV.1.trans hlv) hst (lv_room hrest) d ⟨C.2.2.2.2.2.2.2.2.2.2.1, C.2.2.2.2.2.2.2.2.2.2.2⟩) kk
end GCALL
end
