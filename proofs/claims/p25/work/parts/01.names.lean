-- ===== PART A: goes FIRST, ahead of the names: the tables' words, and 'selects' of the private methods out of them =====
/-- a private method of a class that the tables say can be made, by its rows of tables_1 -/
def lw_okq (q : MethodName × Nat) : Prop := (q.1.cls ≠ "java/lang/invoke/MethodHandle" ∧ q.1.cls ≠ "java/lang/invoke/VarHandle") ∧ Cond.instantiable q.1.cls q.2 ∈ tables_1 ∧ Cond.privateMethod q.1 ∈ tables_1 ∧ Cond.instanceMethod q.1 ∈ tables_1
theorem lw_p0 : lw_okq (⟨"GrowingUrns", "sheetAt", "(I)LGrowingUrns$Sheet;"⟩, 10) := ⟨⟨by decide +kernel, by decide +kernel⟩, List.mem_of_getElem? (i := 14) (by decide +kernel), List.mem_of_getElem? (i := 253) (by decide +kernel), List.mem_of_getElem? (i := 254) (by decide +kernel)⟩
theorem lw_p1 : lw_okq (⟨"GrowingUrns", "urnAt", "(I)LGrowingUrns$Urn;"⟩, 10) := ⟨⟨by decide +kernel, by decide +kernel⟩, List.mem_of_getElem? (i := 14) (by decide +kernel), List.mem_of_getElem? (i := 291) (by decide +kernel), List.mem_of_getElem? (i := 292) (by decide +kernel)⟩
theorem lw_p2 : lw_okq (⟨"GrowingUrns", "keepAct", "()V"⟩, 10) := ⟨⟨by decide +kernel, by decide +kernel⟩, List.mem_of_getElem? (i := 14) (by decide +kernel), List.mem_of_getElem? (i := 303) (by decide +kernel), List.mem_of_getElem? (i := 304) (by decide +kernel)⟩
theorem lw_p3 : lw_okq (⟨"GrowingUrns", "findPath", "(I)Z"⟩, 10) := ⟨⟨by decide +kernel, by decide +kernel⟩, List.mem_of_getElem? (i := 14) (by decide +kernel), List.mem_of_getElem? (i := 382) (by decide +kernel), List.mem_of_getElem? (i := 383) (by decide +kernel)⟩
theorem lw_p4 : lw_okq (⟨"GrowingUrns", "goPath", "()V"⟩, 10) := ⟨⟨by decide +kernel, by decide +kernel⟩, List.mem_of_getElem? (i := 14) (by decide +kernel), List.mem_of_getElem? (i := 394) (by decide +kernel), List.mem_of_getElem? (i := 395) (by decide +kernel)⟩
theorem lw_p5 : lw_okq (⟨"GrowingUrns", "weighRows", "(LGrowingUrns$Urn;II)I"⟩, 10) := ⟨⟨by decide +kernel, by decide +kernel⟩, List.mem_of_getElem? (i := 14) (by decide +kernel), List.mem_of_getElem? (i := 450) (by decide +kernel), List.mem_of_getElem? (i := 451) (by decide +kernel)⟩
theorem lw_p6 : lw_okq (⟨"GrowingUrns$After", "walk", "(LGrowingUrns$Urn;IIZ)V"⟩, 11) := ⟨⟨by decide +kernel, by decide +kernel⟩, List.mem_of_getElem? (i := 103) (by decide +kernel), List.mem_of_getElem? (i := 473) (by decide +kernel), List.mem_of_getElem? (i := 474) (by decide +kernel)⟩
theorem lw_p7 : lw_okq (⟨"GrowingUrns$After", "walkStep", "(LGrowingUrns$Urn;IIIZ)V"⟩, 11) := ⟨⟨by decide +kernel, by decide +kernel⟩, List.mem_of_getElem? (i := 103) (by decide +kernel), List.mem_of_getElem? (i := 478) (by decide +kernel), List.mem_of_getElem? (i := 479) (by decide +kernel)⟩
theorem lw_p8 : lw_okq (⟨"GrowingUrns$After", "findBalls", "(LGrowingUrns$Urn;)V"⟩, 11) := ⟨⟨by decide +kernel, by decide +kernel⟩, List.mem_of_getElem? (i := 103) (by decide +kernel), List.mem_of_getElem? (i := 484) (by decide +kernel), List.mem_of_getElem? (i := 485) (by decide +kernel)⟩
theorem lw_p9 : lw_okq (⟨"GrowingUrns$After", "settle", "(JII)V"⟩, 11) := ⟨⟨by decide +kernel, by decide +kernel⟩, List.mem_of_getElem? (i := 103) (by decide +kernel), List.mem_of_getElem? (i := 488) (by decide +kernel), List.mem_of_getElem? (i := 489) (by decide +kernel)⟩
theorem lw_p10 : lw_okq (⟨"GrowingUrns$After", "spread", "(LGrowingUrns$Urn;IJIZ)V"⟩, 11) := ⟨⟨by decide +kernel, by decide +kernel⟩, List.mem_of_getElem? (i := 103) (by decide +kernel), List.mem_of_getElem? (i := 492) (by decide +kernel), List.mem_of_getElem? (i := 493) (by decide +kernel)⟩
theorem lw_p11 : lw_okq (⟨"GrowingUrns$Orders", "isAsAhead", "(ILGrowingUrns$Row;)Z"⟩, 2) := ⟨⟨by decide +kernel, by decide +kernel⟩, List.mem_of_getElem? (i := 89) (by decide +kernel), List.mem_of_getElem? (i := 550) (by decide +kernel), List.mem_of_getElem? (i := 551) (by decide +kernel)⟩
theorem lw_p12 : lw_okq (⟨"GrowingUrns", "drawsInAll", "()I"⟩, 10) := ⟨⟨by decide +kernel, by decide +kernel⟩, List.mem_of_getElem? (i := 14) (by decide +kernel), List.mem_of_getElem? (i := 563) (by decide +kernel), List.mem_of_getElem? (i := 564) (by decide +kernel)⟩
theorem lw_p13 : lw_okq (⟨"GrowingUrnsModel", "placed", "(II)I"⟩, 26) := ⟨⟨by decide +kernel, by decide +kernel⟩, List.mem_of_getElem? (i := 567) (by decide +kernel), List.mem_of_getElem? (i := 669) (by decide +kernel), List.mem_of_getElem? (i := 670) (by decide +kernel)⟩
theorem lw_p14 : lw_okq (⟨"GrowingUrnsModel", "isUrn", "(I)Z"⟩, 26) := ⟨⟨by decide +kernel, by decide +kernel⟩, List.mem_of_getElem? (i := 567) (by decide +kernel), List.mem_of_getElem? (i := 688) (by decide +kernel), List.mem_of_getElem? (i := 689) (by decide +kernel)⟩
theorem lw_p15 : lw_okq (⟨"GrowingUrnsModel", "isColour", "(II)Z"⟩, 26) := ⟨⟨by decide +kernel, by decide +kernel⟩, List.mem_of_getElem? (i := 567) (by decide +kernel), List.mem_of_getElem? (i := 692) (by decide +kernel), List.mem_of_getElem? (i := 693) (by decide +kernel)⟩
def lw_privs_1 : List (MethodName × Nat) := [(⟨"GrowingUrns", "sheetAt", "(I)LGrowingUrns$Sheet;"⟩, 10), (⟨"GrowingUrns", "urnAt", "(I)LGrowingUrns$Urn;"⟩, 10), (⟨"GrowingUrns", "keepAct", "()V"⟩, 10), (⟨"GrowingUrns", "findPath", "(I)Z"⟩, 10), (⟨"GrowingUrns", "goPath", "()V"⟩, 10), (⟨"GrowingUrns", "weighRows", "(LGrowingUrns$Urn;II)I"⟩, 10), (⟨"GrowingUrns$After", "walk", "(LGrowingUrns$Urn;IIZ)V"⟩, 11), (⟨"GrowingUrns$After", "walkStep", "(LGrowingUrns$Urn;IIIZ)V"⟩, 11), (⟨"GrowingUrns$After", "findBalls", "(LGrowingUrns$Urn;)V"⟩, 11), (⟨"GrowingUrns$After", "settle", "(JII)V"⟩, 11), (⟨"GrowingUrns$After", "spread", "(LGrowingUrns$Urn;IJIZ)V"⟩, 11), (⟨"GrowingUrns$Orders", "isAsAhead", "(ILGrowingUrns$Row;)Z"⟩, 2), (⟨"GrowingUrns", "drawsInAll", "()I"⟩, 10), (⟨"GrowingUrnsModel", "placed", "(II)I"⟩, 26), (⟨"GrowingUrnsModel", "isUrn", "(I)Z"⟩, 26), (⟨"GrowingUrnsModel", "isColour", "(II)Z"⟩, 26)]
theorem lw_r1 : ∀ q ∈ lw_privs_1, lw_okq q := List.forall_mem_cons.mpr ⟨lw_p0, List.forall_mem_cons.mpr ⟨lw_p1, List.forall_mem_cons.mpr ⟨lw_p2, List.forall_mem_cons.mpr ⟨lw_p3, List.forall_mem_cons.mpr ⟨lw_p4, List.forall_mem_cons.mpr ⟨lw_p5, List.forall_mem_cons.mpr ⟨lw_p6, List.forall_mem_cons.mpr ⟨lw_p7, List.forall_mem_cons.mpr ⟨lw_p8, List.forall_mem_cons.mpr ⟨lw_p9, List.forall_mem_cons.mpr ⟨lw_p10, List.forall_mem_cons.mpr ⟨lw_p11, List.forall_mem_cons.mpr ⟨lw_p12, List.forall_mem_cons.mpr ⟨lw_p13, List.forall_mem_cons.mpr ⟨lw_p14, List.forall_mem_cons.mpr ⟨lw_p15, fun _ h => absurd h List.not_mem_nil⟩⟩⟩⟩⟩⟩⟩⟩⟩⟩⟩⟩⟩⟩⟩⟩
theorem lw_p16 : lw_okq (⟨"GrowingUrnsModel", "keep", "()V"⟩, 26) := ⟨⟨by decide +kernel, by decide +kernel⟩, List.mem_of_getElem? (i := 567) (by decide +kernel), List.mem_of_getElem? (i := 699) (by decide +kernel), List.mem_of_getElem? (i := 700) (by decide +kernel)⟩
theorem lw_p17 : lw_okq (⟨"GrowingUrnsModel", "balls", "(I)I"⟩, 26) := ⟨⟨by decide +kernel, by decide +kernel⟩, List.mem_of_getElem? (i := 567) (by decide +kernel), List.mem_of_getElem? (i := 724) (by decide +kernel), List.mem_of_getElem? (i := 725) (by decide +kernel)⟩
theorem lw_p18 : lw_okq (⟨"GrowingUrnsModel", "isEven", "(I)Z"⟩, 26) := ⟨⟨by decide +kernel, by decide +kernel⟩, List.mem_of_getElem? (i := 567) (by decide +kernel), List.mem_of_getElem? (i := 728) (by decide +kernel), List.mem_of_getElem? (i := 729) (by decide +kernel)⟩
theorem lw_p19 : lw_okq (⟨"GrowingUrnsModel", "addedSum", "(II)I"⟩, 26) := ⟨⟨by decide +kernel, by decide +kernel⟩, List.mem_of_getElem? (i := 567) (by decide +kernel), List.mem_of_getElem? (i := 732) (by decide +kernel), List.mem_of_getElem? (i := 733) (by decide +kernel)⟩
theorem lw_p20 : lw_okq (⟨"GrowingUrnsModel", "isLike", "(I)Z"⟩, 26) := ⟨⟨by decide +kernel, by decide +kernel⟩, List.mem_of_getElem? (i := 567) (by decide +kernel), List.mem_of_getElem? (i := 736) (by decide +kernel), List.mem_of_getElem? (i := 737) (by decide +kernel)⟩
theorem lw_p21 : lw_okq (⟨"GrowingUrnsModel", "canDraw", "(II)Z"⟩, 26) := ⟨⟨by decide +kernel, by decide +kernel⟩, List.mem_of_getElem? (i := 567) (by decide +kernel), List.mem_of_getElem? (i := 748) (by decide +kernel), List.mem_of_getElem? (i := 749) (by decide +kernel)⟩
theorem lw_p22 : lw_okq (⟨"GrowingUrnsModel", "draws", "(II)V"⟩, 26) := ⟨⟨by decide +kernel, by decide +kernel⟩, List.mem_of_getElem? (i := 567) (by decide +kernel), List.mem_of_getElem? (i := 752) (by decide +kernel), List.mem_of_getElem? (i := 753) (by decide +kernel)⟩
theorem lw_p23 : lw_okq (⟨"GrowingUrnsModel", "looks", "(I)Z"⟩, 26) := ⟨⟨by decide +kernel, by decide +kernel⟩, List.mem_of_getElem? (i := 567) (by decide +kernel), List.mem_of_getElem? (i := 765) (by decide +kernel), List.mem_of_getElem? (i := 766) (by decide +kernel)⟩
theorem lw_p24 : lw_okq (⟨"GrowingUrnsModel", "doesDraws", "()I"⟩, 26) := ⟨⟨by decide +kernel, by decide +kernel⟩, List.mem_of_getElem? (i := 567) (by decide +kernel), List.mem_of_getElem? (i := 772) (by decide +kernel), List.mem_of_getElem? (i := 773) (by decide +kernel)⟩
theorem lw_p25 : lw_okq (⟨"GrowingUrnsModel", "follows", "(III)Z"⟩, 26) := ⟨⟨by decide +kernel, by decide +kernel⟩, List.mem_of_getElem? (i := 567) (by decide +kernel), List.mem_of_getElem? (i := 794) (by decide +kernel), List.mem_of_getElem? (i := 795) (by decide +kernel)⟩
theorem lw_p26 : lw_okq (⟨"GrowingUrnsModel", "tells", "(JJ)I"⟩, 26) := ⟨⟨by decide +kernel, by decide +kernel⟩, List.mem_of_getElem? (i := 567) (by decide +kernel), List.mem_of_getElem? (i := 802) (by decide +kernel), List.mem_of_getElem? (i := 803) (by decide +kernel)⟩
theorem lw_p27 : lw_okq (⟨"GrowingUrnsModel", "isAsked", "(II)Z"⟩, 26) := ⟨⟨by decide +kernel, by decide +kernel⟩, List.mem_of_getElem? (i := 567) (by decide +kernel), List.mem_of_getElem? (i := 810) (by decide +kernel), List.mem_of_getElem? (i := 811) (by decide +kernel)⟩
theorem lw_p28 : lw_okq (⟨"GrowingUrnsModel", "evenFault", "(II)I"⟩, 26) := ⟨⟨by decide +kernel, by decide +kernel⟩, List.mem_of_getElem? (i := 567) (by decide +kernel), List.mem_of_getElem? (i := 814) (by decide +kernel), List.mem_of_getElem? (i := 815) (by decide +kernel)⟩
theorem lw_p29 : lw_okq (⟨"GrowingUrnsModel", "goes", "(IIIIII)V"⟩, 26) := ⟨⟨by decide +kernel, by decide +kernel⟩, List.mem_of_getElem? (i := 567) (by decide +kernel), List.mem_of_getElem? (i := 819) (by decide +kernel), List.mem_of_getElem? (i := 820) (by decide +kernel)⟩
theorem lw_p30 : lw_okq (⟨"GrowingUrnsModel", "looksAt", "(III)V"⟩, 26) := ⟨⟨by decide +kernel, by decide +kernel⟩, List.mem_of_getElem? (i := 567) (by decide +kernel), List.mem_of_getElem? (i := 826) (by decide +kernel), List.mem_of_getElem? (i := 827) (by decide +kernel)⟩
theorem lw_p31 : lw_okq (⟨"GrowingUrnsModel", "spreads", "(IIIJJII)V"⟩, 26) := ⟨⟨by decide +kernel, by decide +kernel⟩, List.mem_of_getElem? (i := 567) (by decide +kernel), List.mem_of_getElem? (i := 830) (by decide +kernel), List.mem_of_getElem? (i := 831) (by decide +kernel)⟩
def lw_privs_2 : List (MethodName × Nat) := [(⟨"GrowingUrnsModel", "keep", "()V"⟩, 26), (⟨"GrowingUrnsModel", "balls", "(I)I"⟩, 26), (⟨"GrowingUrnsModel", "isEven", "(I)Z"⟩, 26), (⟨"GrowingUrnsModel", "addedSum", "(II)I"⟩, 26), (⟨"GrowingUrnsModel", "isLike", "(I)Z"⟩, 26), (⟨"GrowingUrnsModel", "canDraw", "(II)Z"⟩, 26), (⟨"GrowingUrnsModel", "draws", "(II)V"⟩, 26), (⟨"GrowingUrnsModel", "looks", "(I)Z"⟩, 26), (⟨"GrowingUrnsModel", "doesDraws", "()I"⟩, 26), (⟨"GrowingUrnsModel", "follows", "(III)Z"⟩, 26), (⟨"GrowingUrnsModel", "tells", "(JJ)I"⟩, 26), (⟨"GrowingUrnsModel", "isAsked", "(II)Z"⟩, 26), (⟨"GrowingUrnsModel", "evenFault", "(II)I"⟩, 26), (⟨"GrowingUrnsModel", "goes", "(IIIIII)V"⟩, 26), (⟨"GrowingUrnsModel", "looksAt", "(III)V"⟩, 26), (⟨"GrowingUrnsModel", "spreads", "(IIIJJII)V"⟩, 26)]
theorem lw_r2 : ∀ q ∈ lw_privs_2, lw_okq q := List.forall_mem_cons.mpr ⟨lw_p16, List.forall_mem_cons.mpr ⟨lw_p17, List.forall_mem_cons.mpr ⟨lw_p18, List.forall_mem_cons.mpr ⟨lw_p19, List.forall_mem_cons.mpr ⟨lw_p20, List.forall_mem_cons.mpr ⟨lw_p21, List.forall_mem_cons.mpr ⟨lw_p22, List.forall_mem_cons.mpr ⟨lw_p23, List.forall_mem_cons.mpr ⟨lw_p24, List.forall_mem_cons.mpr ⟨lw_p25, List.forall_mem_cons.mpr ⟨lw_p26, List.forall_mem_cons.mpr ⟨lw_p27, List.forall_mem_cons.mpr ⟨lw_p28, List.forall_mem_cons.mpr ⟨lw_p29, List.forall_mem_cons.mpr ⟨lw_p30, List.forall_mem_cons.mpr ⟨lw_p31, fun _ h => absurd h List.not_mem_nil⟩⟩⟩⟩⟩⟩⟩⟩⟩⟩⟩⟩⟩⟩⟩⟩
theorem lw_p32 : lw_okq (⟨"GrowingUrnsModel", "sum", "(I)J"⟩, 26) := ⟨⟨by decide +kernel, by decide +kernel⟩, List.mem_of_getElem? (i := 567) (by decide +kernel), List.mem_of_getElem? (i := 855) (by decide +kernel), List.mem_of_getElem? (i := 856) (by decide +kernel)⟩
def lw_privs_3 : List (MethodName × Nat) := [(⟨"GrowingUrnsModel", "sum", "(I)J"⟩, 26)]
theorem lw_r3 : ∀ q ∈ lw_privs_3, lw_okq q := List.forall_mem_cons.mpr ⟨lw_p32, fun _ h => absurd h List.not_mem_nil⟩
def lw_privs : List (MethodName × Nat) := lw_privs_1 ++ (lw_privs_2 ++ (lw_privs_3))
def lw_tbl : List Cond := k2_sels lw_privs ++ tables_1
theorem lw_privs_ok : ∀ q ∈ lw_privs, lw_okq q := by
  show ∀ q ∈ lw_privs_1 ++ (lw_privs_2 ++ (lw_privs_3)), lw_okq q
  exact List.forall_mem_append.mpr ⟨lw_r1, List.forall_mem_append.mpr ⟨lw_r2, lw_r3⟩⟩
def vr_up {α : Type} (f : Nat → α) (l : List Nat) (v : α) : Nat → α := fun a => if a ∈ l then v else f a
theorem vr_up_in {α : Type} {f : Nat → α} {l : List Nat} {v : α} {a : Nat} (h : a ∈ l) : vr_up f l v a = v := if_pos h
theorem vr_up_ne {α : Type} {f : Nat → α} {l : List Nat} {v : α} {a : Nat} (h : a ∉ l) : vr_up f l v a = f a := if_neg h
theorem vr_rows {L l : List Nat} {f : Nat → va_E} {e : va_E} (h : ∀ a, a ∈ l → a ∉ L) : va_pl L f ++ l.map (fun a => (a, e)) = va_pl (L ++ l) (vr_up f l e) := by
  unfold va_pl
  rw [List.map_append]
  congr 1
  · apply List.map_congr_left
    intro a ha
    rw [vr_up_ne (fun q => h a q ha)]
  · apply List.map_congr_left
    intro a ha
    rw [vr_up_in ha]
theorem vr_lay {X rows : va_W} {x : Nat × va_E} {pl : va_W} {D : va_G} {cl : List vw_C} {H : Heap} (hP : va_P D cl (((X ++ pl) ++ [x]) ++ rows) H) : va_P D cl ((X ++ [x]) ++ (pl ++ rows)) H := by
  rw [List.append_assoc (X ++ pl)] at hP
  have h := va_P.swap hP
  rw [← List.append_assoc X] at h
  have h2 := va_P.swap h
  rw [List.append_assoc (X ++ [x])] at h2
  exact h2
theorem vr_layD {X rows : va_W} {x : Nat × va_E} {pl : va_W} {A : Nat → Prop} (hD : va_D A (((X ++ pl) ++ [x]) ++ rows)) : va_D A ((X ++ [x]) ++ (pl ++ rows)) := by
  rw [List.append_assoc (X ++ pl)] at hD
  have h := va_D.swap hD
  rw [← List.append_assoc X] at h
  have h2 := va_D.swap h
  rw [List.append_assoc (X ++ [x])] at h2
  exact h2
theorem vr_outer (c : ClassId) (N h0 : Nat) : ∀ i : Nat, Jvm.Free.Multi.outerC c N h0 i = arrV c N (fun j => va_rf (if j < i then some (h0 + 1 + j) else none))
  | 0 => by
    show ({ cls := c, slots := Array.replicate N .null, vm := .none } : Cell) = _
    rw [arrV_new]
    refine congrArg (arrV c N) (funext fun j => ?_)
    simp [va_rf]
  | i + 1 => by
    show (Jvm.Free.Multi.outerC c N h0 i).setSlot i (.ref (h0 + 1 + i)) = _
    rw [vr_outer c N h0 i, arrV_store]
    refine congrArg (arrV c N) (funext fun j => ?_)
    by_cases e : j = i
    · subst e
      simp [updV, va_rf]
    · by_cases h : j < i
      · simp [updV, e, h, Nat.lt_succ_of_lt h]
      · simp [updV, e, h, show ¬ j < i + 1 by omega]
def va_AOA (ty : FieldType) (U : State) : Prop := (Cond.arrayOver (.array ty)).before #[] U = true
theorem va_AOA.use {ty : FieldType} {A : Array Value} {U : State} (h : va_AOA ty U) : (Cond.arrayOver (.array ty)).before A U = true := h
section VGM
variable {p : Program} {l : Launch} {e : Env} {R : Room} {s : State} {m : MethodId} {args : Array Value} {below : List Frame} {meth : Method} {c : Code} {H : Heap} {locs : List Loc} {cells slots : Nat} {Q : State → Prop}
variable {cc : ByteArray} {pc : Nat} {ls : Array Slot} {rest : List Value} {D : va_G} {cl : List vw_C} {A : Nat → Prop} {a : Nat} {tys : List (ClassId × FieldType)} {ws : va_W} {H0 : Heap}
theorem va_mna {X : va_W} {L : List Nat} {f : Nat → va_E} {cc : ByteArray} (hexec : p.tables.exec = Jvm.exec) (hb : c.code = cc) {own : String} {index : Nat} {ty : FieldType} {cy : ClassId} (hown : s.vm.findClass own = some m.cls) (hclink : (Cond.classLink own index ("[" ++ (FieldType.array ty).toString)).before args s = true) (hover : va_AOA ty s) (harr : (Cond.arrayClass ty).before args s = true) (hcy : s.vm.findClass (FieldType.array ty).toString = some cy)
    (hK : va_K D cl tys s) (hP : va_P D cl (X ++ va_pl L f) H) (hD : va_D A (X ++ va_pl L f)) (hS : va_S A H0 H locs) (hA : ∀ q, H0.size ≤ q → A q) {n k : Int32} {N' K' : Nat} {z : vp_A} (hn : ¬ n < 0) (hk : ¬ k < 0) (hN : n.toNatClampNeg = N') (hM : k.toNatClampNeg = K')
    (hb1 : N' * 4 ≤ 536870912) (hb2 : K' * componentBytes ty ≤ 536870912) (hb3 : K' ≤ 536870912) (hdf : fits ty (defaultValue ty) = true) (hdd : (defaultValue ty).isDefault = true) (hcells : cells + (1 + N') ≤ R.cells) (hslots : slots + (N' + N' * K') ≤ R.slots) (hz : ∀ c : ClassId, Jvm.Free.Multi.innerC c K' (defaultValue ty) = vp_cell c z) (hdg : decode cc pc = .ok (.multianewarray index 2, 4))
    (kk : ∀ (q : Nat) (r : Nat → Nat) (cA : ClassId) (H1 : Heap), (∀ i j : Nat, i < N' → j < N' → r i = r j → i = j) → (∀ i : Nat, i < N' → r i ∉ L) → va_K D cl (tys ++ [(cA, .array ty)]) s →
      va_P D cl ((X ++ [(q, .inl (cA, N', .inr (.inr (.inr (.inr (fun i => if i < N' then some (r i) else none))))))]) ++ va_pl (L ++ (List.range N').map r) (vr_up f ((List.range N').map r) (.inl (cy, z)))) H1 → va_D A ((X ++ [(q, .inl (cA, N', .inr (.inr (.inr (.inr (fun i => if i < N' then some (r i) else none))))))]) ++ va_pl (L ++ (List.range N').map r) (vr_up f ((List.range N').map r) (.inl (cy, z)))) → va_S A H0 H1 locs →
      W p l e R s m args below meth c H1 locs (cells + 1 + N') (slots + N' + N' * K') Q (F0 m (pc + 4) ls (.ref q :: rest))) : W p l e R s m args below meth c H locs cells slots Q (F0 m pc ls (.int k :: .int n :: rest)) := by
  subst hN
  subst hM
  intro T hT Xs
  obtain ⟨vm₁, cA, comp, -, fA, fC, hO, -, X', step⟩ := Xs.multianewarray2F hexec hown hclink (va_AOA.use hover) harr (g := F0 m pc ls (.int k :: .int n :: rest)) rfl (by rw [hb]; exact hdg) rfl hn hk hb1 hb2 hb3 hdf hdd hcells hslots
  have ec : some cy = some comp := hcy.symm.trans fC
  cases ec
  generalize hF : Jvm.Free.Multi.fill (T.setVm vm₁) cA cy n.toNatClampNeg k.toNatClampNeg (defaultValue ty) n.toNatClampNeg = F at X' step
  have hTh : (T.setVm vm₁).heap = H := hT
  obtain ⟨f1, f2, -, -⟩ := Jvm.Free.Multi.fill_facts (T.setVm vm₁) cA cy n.toNatClampNeg k.toNatClampNeg (defaultValue ty) n.toNatClampNeg
  rw [hF, hTh] at f1 f2
  have hold : ∀ x : Nat, x < H.size → F.heap[x]? = H[x]? := fun x hx => by
    have := Jvm.Free.Multi.fill_old (T.setVm vm₁) cA cy n.toNatClampNeg k.toNatClampNeg (defaultValue ty) (a := x) (by rw [hTh]; exact hx) n.toNatClampNeg
    rw [hF, hTh] at this
    exact this
  have hrow : ∀ j : Nat, j < n.toNatClampNeg → F.heap[H.size + 1 + j]? = some (vp_cell cy z) := fun j hj => by
    have := Jvm.Free.Multi.fill_inner (T.setVm vm₁) cA cy n.toNatClampNeg k.toNatClampNeg (defaultValue ty) n.toNatClampNeg j hj
    rw [hF, hTh, hz] at this
    exact this
  have hout : Jvm.Free.Multi.outerC cA n.toNatClampNeg H.size n.toNatClampNeg = vp_cell cA (n.toNatClampNeg, .inr (.inr (.inr (.inr (fun i => if i < n.toNatClampNeg then some (H.size + 1 + i) else none))))) := by
    rw [vp_cell_q]
    exact vr_outer cA n.toNatClampNeg H.size n.toNatClampNeg
  rw [hout] at f2
  have hlt : ∀ a, a ∈ L → a < H.size := fun a ha => by
    obtain ⟨k9, hk9⟩ := va_pl_get (X := X) (f := f) ha
    exact (hP k9 _ hk9).lt
  have hnl : ∀ i : Nat, i < n.toNatClampNeg → H.size + 1 + i ∉ L := fun i _ h => by
    have := hlt _ h
    omega
  have hnm : ∀ a, a ∈ (List.range n.toNatClampNeg).map (fun i => H.size + 1 + i) → a ∉ L := fun a ha h => by
    obtain ⟨i, -, rfl⟩ := List.mem_map.mp ha
    have := hlt _ h
    omega
  have hP0 : va_P D cl (X ++ va_pl L f) F.heap := hP.kept (fun k9 x hx => hold x.1 ((hP k9 x hx).lt))
  have hP1 : va_P D cl ((X ++ va_pl L f) ++ [(H.size, .inl (cA, n.toNatClampNeg, .inr (.inr (.inr (.inr (fun i => if i < n.toNatClampNeg then some (H.size + 1 + i) else none))))))]) F.heap := hP0.app (fun k9 x hx => by
    have h0 : k9 < 1 := (List.getElem?_eq_some_iff.mp hx).1
    rw [show k9 = 0 by omega] at hx
    cases hx
    exact f2)
  have hP2 : va_P D cl (((X ++ va_pl L f) ++ [(H.size, .inl (cA, n.toNatClampNeg, .inr (.inr (.inr (.inr (fun i => if i < n.toNatClampNeg then some (H.size + 1 + i) else none))))))]) ++ ((List.range n.toNatClampNeg).map (fun i => H.size + 1 + i)).map (fun a => (a, .inl (cy, z)))) F.heap := hP1.app (fun k9 x hx => by
    obtain ⟨a, ha, rfl⟩ := List.mem_map.mp (List.mem_of_getElem? hx)
    obtain ⟨i, hi, rfl⟩ := List.mem_map.mp ha
    exact hrow i (List.mem_range.mp hi))
  have hD2 : va_D A (((X ++ va_pl L f) ++ [(H.size, .inl (cA, n.toNatClampNeg, .inr (.inr (.inr (.inr (fun i => if i < n.toNatClampNeg then some (H.size + 1 + i) else none))))))]) ++ ((List.range n.toNatClampNeg).map (fun i => H.size + 1 + i)).map (fun a => (a, .inl (cy, z)))) := by
    have hD1 := hD.push (e := .inl (cA, n.toNatClampNeg, .inr (.inr (.inr (.inr (fun i => if i < n.toNatClampNeg then some (H.size + 1 + i) else none)))))) hP rfl (hA _ hS.1)
    generalize hW1 : (X ++ va_pl L f) ++ [(H.size, .inl (cA, n.toNatClampNeg, .inr (.inr (.inr (.inr (fun i => if i < n.toNatClampNeg then some (H.size + 1 + i) else none))))))] = W1 at hD1 hP1 ⊢
    have hle : ∀ (k9 : Nat) (x : Nat × va_E), W1[k9]? = some x → x.1 ≤ H.size := fun k9 x hx => by
      rw [← hW1] at hx
      by_cases hl : k9 < (X ++ va_pl L f).length
      · rw [List.getElem?_append_left hl] at hx
        exact Nat.le_of_lt ((hP k9 x hx).lt)
      · rw [List.getElem?_append_right (by omega)] at hx
        have h0 : k9 - (X ++ va_pl L f).length < 1 := (List.getElem?_eq_some_iff.mp hx).1
        rw [show k9 - (X ++ va_pl L f).length = 0 by omega] at hx
        cases hx
        exact Nat.le_refl _
    have hr : ∀ (k9 : Nat) (x : Nat × va_E), (((List.range n.toNatClampNeg).map (fun i => H.size + 1 + i)).map (fun a => ((a, .inl (cy, z)) : Nat × va_E)))[k9]? = some x → x.1 = H.size + 1 + k9 := fun k9 x hx => by
      rw [List.getElem?_map, List.getElem?_map] at hx
      by_cases h9 : k9 < n.toNatClampNeg
      · rw [List.getElem?_range h9] at hx
        cases hx
        rfl
      · have hn0 : (List.range n.toNatClampNeg)[k9]? = none := List.getElem?_eq_none (by rw [List.length_range]; omega)
        rw [hn0] at hx
        cases hx
    refine ⟨fun i j x y hi hj hxy => ?_, fun k9 x hx => ?_⟩
    · by_cases h1 : i < W1.length <;> by_cases h2 : j < W1.length
      · rw [List.getElem?_append_left h1] at hi
        rw [List.getElem?_append_left h2] at hj
        exact hD1.1 i j x y hi hj hxy
      · rw [List.getElem?_append_left h1] at hi
        rw [List.getElem?_append_right (by omega)] at hj
        have := hle _ _ hi
        have := hr _ _ hj
        omega
      · rw [List.getElem?_append_right (by omega)] at hi
        rw [List.getElem?_append_left h2] at hj
        have := hle _ _ hj
        have := hr _ _ hi
        omega
      · rw [List.getElem?_append_right (by omega)] at hi hj
        have := hr _ _ hi
        have := hr _ _ hj
        omega
    · by_cases h1 : k9 < W1.length
      · rw [List.getElem?_append_left h1] at hx
        exact hD1.2 k9 x hx
      · rw [List.getElem?_append_right (by omega)] at hx
        have := hr _ _ hx
        exact hA _ (by have := hS.1; omega)
  have hAr : ArrOfT s cA (.array ty) := fun N9 z9 => by
    obtain ⟨-, k9, hk9, cm9, hkk9⟩ := (hO 0 0 0).1
    exact ⟨(fun q hq => by cases hq), k9, hk9, cm9, hkk9⟩
  have hK2 : va_K D cl (tys ++ [(cA, .array ty)]) s := ⟨hK.1, fun k9 x hx => by
    by_cases hl : k9 < tys.length
    · rw [List.getElem?_append_left hl] at hx
      exact hK.2 k9 x hx
    · rw [List.getElem?_append_right (by omega)] at hx
      have h0 : k9 - tys.length < 1 := (List.getElem?_eq_some_iff.mp hx).1
      rw [show k9 - tys.length = 0 by omega] at hx
      cases hx
      exact ⟨hAr, fA⟩⟩
  obtain ⟨t, a1, b1⟩ := kk H.size (fun i => H.size + 1 + i) cA F.heap (fun i j _ _ h => by have h9 : H.size + 1 + i = H.size + 1 + j := h; omega) hnl hK2 (by rw [← vr_rows hnm]; exact vr_lay hP2) (by rw [← vr_rows hnm]; exact vr_layD hD2) ⟨by rw [f1]; have := hS.1; omega, fun x h1 h2 => (hold x (Nat.lt_of_lt_of_le h1 hS.1)).trans (hS.2.1 x h1 h2), hS.2.2⟩ F rfl X'
  refine ⟨t, step t ?_, b1⟩
  have e : T.heap.size = H.size := by rw [hT]
  rw [e]
  exact a1
end VGM
def RX0 : String := "GrowingUrns$After"
def TX0 : u_T := fun k => match k with
  | 0 => ("GrowingUrns$After", "now", "[J", false)
  | 1 => ("GrowingUrns$After", "next", "[J", false)
  | 2 => ("GrowingUrns$After", "only", "[I", true)
  | 3 => ("GrowingUrns$After", "often", "[I", true)
  | 4 => ("GrowingUrns$After", "balls", "[I", true)
  | 5 => ("GrowingUrns$After", "byTimes", "[J", true)
  | 6 => ("GrowingUrns$After", "byBalls", "[J", true)
  | 7 => ("GrowingUrns$After", "ended", "J", false)
  | 8 => ("GrowingUrns$After", "below", "J", false)
  | 9 => ("GrowingUrns$After", "meanWhole", "J", false)
  | _ => ("GrowingUrns$After", "meanRest", "J", false)
def tyX0 : Nat → FieldType := fun k => match k with
  | 0 => .array .long
  | 1 => .array .long
  | 2 => .array .int
  | 3 => .array .int
  | 4 => .array .int
  | 5 => .array .long
  | 6 => .array .long
  | 7 => .long
  | 8 => .long
  | 9 => .long
  | _ => .long
abbrev wsX00 : List Cond := u_ws RX0 TX0 11
theorem nmX0 : ∀ a, a < 11 → ∀ b, b < 11 → a ≠ b → (TX0 a).2.1 ≠ (TX0 b).2.1 := by decide +kernel
theorem tyX0_ok : ∀ k, k < 11 → parseFieldDescriptor (TX0 k).2.2.1 = some (tyX0 k) := by decide +kernel
abbrev cX0_init : ByteArray := prog_2_method_1_code
def yX0_init : MethodName := ⟨RX0, "<init>", "()V"⟩
abbrev cX0_letAny : ByteArray := prog_2_method_2_code
def yX0_letAny : MethodName := ⟨RX0, "letAny", "()V"⟩
abbrev cX0_letOnly : ByteArray := prog_2_method_3_code
def yX0_letOnly : MethodName := ⟨RX0, "letOnly", "(II)V"⟩
abbrev cX0_findBelow : ByteArray := prog_2_method_4_code
def yX0_findBelow : MethodName := ⟨RX0, "findBelow", "(LGrowingUrns$Urn;I)Z"⟩
abbrev cX0_factorAt : ByteArray := prog_2_method_5_code
def yX0_factorAt : MethodName := ⟨RX0, "factorAt", "(LGrowingUrns$Urn;I)J"⟩
abbrev cX0_countRows : ByteArray := prog_2_method_6_code
def yX0_countRows : MethodName := ⟨RX0, "countRows", "(LGrowingUrns$Urn;I)J"⟩
abbrev cX0_weigh : ByteArray := prog_2_method_7_code
def yX0_weigh : MethodName := ⟨RX0, "weigh", "(LGrowingUrns$Urn;II)V"⟩
abbrev cX0_through : ByteArray := prog_2_method_8_code
def yX0_through : MethodName := ⟨RX0, "through", "()J"⟩
abbrev cX0_findMean : ByteArray := prog_2_method_9_code
def yX0_findMean : MethodName := ⟨RX0, "findMean", "(I)V"⟩
abbrev cX0_walk : ByteArray := prog_2_method_10_code
def yX0_walk : MethodName := ⟨RX0, "walk", "(LGrowingUrns$Urn;IIZ)V"⟩
abbrev cX0_walkStep : ByteArray := prog_2_method_11_code
def yX0_walkStep : MethodName := ⟨RX0, "walkStep", "(LGrowingUrns$Urn;IIIZ)V"⟩
abbrev cX0_settle : ByteArray := prog_2_method_12_code
def yX0_settle : MethodName := ⟨RX0, "settle", "(JII)V"⟩
abbrev cX0_findBalls : ByteArray := prog_2_method_13_code
def yX0_findBalls : MethodName := ⟨RX0, "findBalls", "(LGrowingUrns$Urn;)V"⟩
abbrev cX0_spread : ByteArray := prog_2_method_14_code
def yX0_spread : MethodName := ⟨RX0, "spread", "(LGrowingUrns$Urn;IJIZ)V"⟩
def RX1 : String := "GrowingUrns$Fraction"
def TX1 : u_T := fun k => match k with
  | 0 => ("GrowingUrns$Fraction", "whole", "J", false)
  | 1 => ("GrowingUrns$Fraction", "above", "J", false)
  | _ => ("GrowingUrns$Fraction", "below", "J", false)
def tyX1 : Nat → FieldType := fun k => match k with
  | 0 => .long
  | 1 => .long
  | _ => .long
abbrev wsX10 : List Cond := u_ws RX1 TX1 3
theorem nmX1 : ∀ a, a < 3 → ∀ b, b < 3 → a ≠ b → (TX1 a).2.1 ≠ (TX1 b).2.1 := by decide +kernel
theorem tyX1_ok : ∀ k, k < 3 → parseFieldDescriptor (TX1 k).2.2.1 = some (tyX1 k) := by decide +kernel
abbrev cX1_init : ByteArray := prog_3_method_1_code
def yX1_init : MethodName := ⟨RX1, "<init>", "()V"⟩
abbrev cX1_become : ByteArray := prog_3_method_2_code
def yX1_become : MethodName := ⟨RX1, "become", "(JJJ)V"⟩
def RX2 : String := "GrowingUrns$Kept"
def TX2 : u_T := fun k => match k with
  | 0 => ("GrowingUrns$Kept", "rows", "[[I", true)
  | 1 => ("GrowingUrns$Kept", "length", "I", false)
  | _ => ("GrowingUrns$Kept", "next", "I", false)
def tyX2 : Nat → FieldType := fun k => match k with
  | 0 => .array (.array .int)
  | 1 => .int
  | _ => .int
abbrev wsX20 : List Cond := u_ws RX2 TX2 3
theorem nmX2 : ∀ a, a < 3 → ∀ b, b < 3 → a ≠ b → (TX2 a).2.1 ≠ (TX2 b).2.1 := by decide +kernel
theorem tyX2_ok : ∀ k, k < 3 → parseFieldDescriptor (TX2 k).2.2.1 = some (tyX2 k) := by decide +kernel
abbrev cX2_init : ByteArray := prog_4_method_1_code
def yX2_init : MethodName := ⟨RX2, "<init>", "()V"⟩
abbrev cX2_nextRow : ByteArray := prog_4_method_2_code
def yX2_nextRow : MethodName := ⟨RX2, "nextRow", "()[I"⟩
abbrev cX2_takeLatest : ByteArray := prog_4_method_3_code
def yX2_takeLatest : MethodName := ⟨RX2, "takeLatest", "()[I"⟩
def RX3 : String := "GrowingUrns$Orders"
def TX3 : u_T := fun k => match k with
  | 0 => ("GrowingUrns$Orders", "aboves", "[J", true)
  | _ => ("GrowingUrns$Orders", "belows", "[J", true)
def tyX3 : Nat → FieldType := fun k => match k with
  | 0 => .array .long
  | _ => .array .long
abbrev wsX30 : List Cond := u_ws RX3 TX3 2
theorem nmX3 : ∀ a, a < 2 → ∀ b, b < 2 → a ≠ b → (TX3 a).2.1 ≠ (TX3 b).2.1 := by decide +kernel
theorem tyX3_ok : ∀ k, k < 2 → parseFieldDescriptor (TX3 k).2.2.1 = some (tyX3 k) := by decide +kernel
abbrev cX3_init : ByteArray := prog_5_method_1_code
def yX3_init : MethodName := ⟨RX3, "<init>", "()V"⟩
abbrev cX3_areAlike : ByteArray := prog_5_method_2_code
def yX3_areAlike : MethodName := ⟨RX3, "areAlike", "(LGrowingUrns$Urn;ILGrowingUrns$Row;)Z"⟩
abbrev cX3_placeOf : ByteArray := prog_5_method_3_code
def yX3_placeOf : MethodName := ⟨RX3, "placeOf", "(II)I"⟩
abbrev cX3_isAsAhead : ByteArray := prog_5_method_4_code
def yX3_isAsAhead : MethodName := ⟨RX3, "isAsAhead", "(ILGrowingUrns$Row;)Z"⟩
def RX4 : String := "GrowingUrns$Path"
def TX4 : u_T := fun k => match k with
  | 0 => ("GrowingUrns$Path", "urns", "[I", true)
  | 1 => ("GrowingUrns$Path", "colours", "[I", true)
  | 2 => ("GrowingUrns$Path", "length", "I", false)
  | _ => ("GrowingUrns$Path", "seed", "J", false)
def tyX4 : Nat → FieldType := fun k => match k with
  | 0 => .array .int
  | 1 => .array .int
  | 2 => .int
  | _ => .long
abbrev wsX40 : List Cond := u_ws RX4 TX4 4
theorem nmX4 : ∀ a, a < 4 → ∀ b, b < 4 → a ≠ b → (TX4 a).2.1 ≠ (TX4 b).2.1 := by decide +kernel
theorem tyX4_ok : ∀ k, k < 4 → parseFieldDescriptor (TX4 k).2.2.1 = some (tyX4 k) := by decide +kernel
abbrev cX4_init : ByteArray := prog_6_method_1_code
def yX4_init : MethodName := ⟨RX4, "<init>", "()V"⟩
def RX5 : String := "GrowingUrns$Row"
def TX5 : u_T := fun k => match k with
  | 0 => ("GrowingUrns$Row", "balls", "[I", true)
  | 1 => ("GrowingUrns$Row", "above", "J", false)
  | _ => ("GrowingUrns$Row", "below", "J", false)
def tyX5 : Nat → FieldType := fun k => match k with
  | 0 => .array .int
  | 1 => .long
  | _ => .long
abbrev wsX50 : List Cond := u_ws RX5 TX5 3
theorem nmX5 : ∀ a, a < 3 → ∀ b, b < 3 → a ≠ b → (TX5 a).2.1 ≠ (TX5 b).2.1 := by decide +kernel
theorem tyX5_ok : ∀ k, k < 3 → parseFieldDescriptor (TX5 k).2.2.1 = some (tyX5 k) := by decide +kernel
abbrev cX5_init : ByteArray := prog_7_method_1_code
def yX5_init : MethodName := ⟨RX5, "<init>", "()V"⟩
abbrev cX5_follow : ByteArray := prog_7_method_2_code
def yX5_follow : MethodName := ⟨RX5, "follow", "(LGrowingUrns$Urn;II)Z"⟩
abbrev cX5_comeTimes : ByteArray := prog_7_method_3_code
def yX5_comeTimes : MethodName := ⟨RX5, "comeTimes", "(II)Z"⟩
def RX6 : String := "GrowingUrns$Sheet"
def TX6 : u_T := fun k => match k with
  | 0 => ("GrowingUrns$Sheet", "places", "[J", true)
  | 1 => ("GrowingUrns$Sheet", "kind", "I", false)
  | _ => ("GrowingUrns$Sheet", "length", "I", false)
def tyX6 : Nat → FieldType := fun k => match k with
  | 0 => .array .long
  | 1 => .int
  | _ => .int
abbrev wsX60 : List Cond := u_ws RX6 TX6 3
theorem nmX6 : ∀ a, a < 3 → ∀ b, b < 3 → a ≠ b → (TX6 a).2.1 ≠ (TX6 b).2.1 := by decide +kernel
theorem tyX6_ok : ∀ k, k < 3 → parseFieldDescriptor (TX6 k).2.2.1 = some (tyX6 k) := by decide +kernel
abbrev cX6_init : ByteArray := prog_8_method_1_code
def yX6_init : MethodName := ⟨RX6, "<init>", "()V"⟩
abbrev cX6_become : ByteArray := prog_8_method_2_code
def yX6_become : MethodName := ⟨RX6, "become", "(II)V"⟩
abbrev cX6_reaches : ByteArray := prog_8_method_3_code
def yX6_reaches : MethodName := ⟨RX6, "reaches", "(II)Z"⟩
abbrev cX6_cut : ByteArray := prog_8_method_4_code
def yX6_cut : MethodName := ⟨RX6, "cut", "(J)J"⟩
abbrev cX6_liesWithin : ByteArray := prog_8_method_5_code
def yX6_liesWithin : MethodName := ⟨RX6, "liesWithin", "(IIII)Z"⟩
def RX7 : String := "GrowingUrns$Urn"
def TX7 : u_T := fun k => match k with
  | 0 => ("GrowingUrns$Urn", "balls", "[I", true)
  | 1 => ("GrowingUrns$Urn", "table", "[I", true)
  | 2 => ("GrowingUrns$Urn", "under", "[I", true)
  | 3 => ("GrowingUrns$Urn", "colours", "I", false)
  | _ => ("GrowingUrns$Urn", "draws", "I", false)
def tyX7 : Nat → FieldType := fun k => match k with
  | 0 => .array .int
  | 1 => .array .int
  | 2 => .array .int
  | 3 => .int
  | _ => .int
abbrev wsX70 : List Cond := u_ws RX7 TX7 5
theorem nmX7 : ∀ a, a < 5 → ∀ b, b < 5 → a ≠ b → (TX7 a).2.1 ≠ (TX7 b).2.1 := by decide +kernel
theorem tyX7_ok : ∀ k, k < 5 → parseFieldDescriptor (TX7 k).2.2.1 = some (tyX7 k) := by decide +kernel
abbrev cX7_init : ByteArray := prog_9_method_1_code
def yX7_init : MethodName := ⟨RX7, "<init>", "()V"⟩
abbrev cX7_has : ByteArray := prog_9_method_2_code
def yX7_has : MethodName := ⟨RX7, "has", "(I)Z"⟩
abbrev cX7_hasAll : ByteArray := prog_9_method_3_code
def yX7_hasAll : MethodName := ⟨RX7, "hasAll", "(II)Z"⟩
abbrev cX7_total : ByteArray := prog_9_method_4_code
def yX7_total : MethodName := ⟨RX7, "total", "()I"⟩
abbrev cX7_growth : ByteArray := prog_9_method_5_code
def yX7_growth : MethodName := ⟨RX7, "growth", "(I)I"⟩
abbrev cX7_isEven : ByteArray := prog_9_method_6_code
def yX7_isEven : MethodName := ⟨RX7, "isEven", "()Z"⟩
abbrev cX7_isLike : ByteArray := prog_9_method_7_code
def yX7_isLike : MethodName := ⟨RX7, "isLike", "()Z"⟩
abbrev cX7_lets : ByteArray := prog_9_method_8_code
def yX7_lets : MethodName := ⟨RX7, "lets", "([II)Z"⟩
abbrev cX7_grow : ByteArray := prog_9_method_9_code
def yX7_grow : MethodName := ⟨RX7, "grow", "([II)V"⟩
abbrev cX7_doDraw : ByteArray := prog_9_method_10_code
def yX7_doDraw : MethodName := ⟨RX7, "doDraw", "(I)V"⟩
abbrev cX7_colourOf : ByteArray := prog_9_method_11_code
def yX7_colourOf : MethodName := ⟨RX7, "colourOf", "(I)I"⟩
abbrev cX7_goInto : ByteArray := prog_9_method_12_code
def yX7_goInto : MethodName := ⟨RX7, "goInto", "([II)V"⟩
abbrev cX7_comeFrom : ByteArray := prog_9_method_13_code
def yX7_comeFrom : MethodName := ⟨RX7, "comeFrom", "([II)V"⟩
def RX8 : String := "GrowingUrns"
def TX8 : u_T := fun k => match k with
  | 0 => ("GrowingUrns", "sheets", "[LGrowingUrns$Sheet;", true)
  | 1 => ("GrowingUrns", "urns", "[LGrowingUrns$Urn;", true)
  | 2 => ("GrowingUrns", "kept", "LGrowingUrns$Kept;", true)
  | 3 => ("GrowingUrns", "path", "LGrowingUrns$Path;", true)
  | 4 => ("GrowingUrns", "tried", "LGrowingUrns$Row;", true)
  | 5 => ("GrowingUrns", "orders", "LGrowingUrns$Orders;", true)
  | 6 => ("GrowingUrns", "after", "LGrowingUrns$After;", true)
  | 7 => ("GrowingUrns", "fraction", "LGrowingUrns$Fraction;", true)
  | 8 => ("GrowingUrns", "made", "I", false)
  | _ => ("GrowingUrns", "seed", "I", false)
def tyX8 : Nat → FieldType := fun k => match k with
  | 0 => .array (.object "GrowingUrns$Sheet")
  | 1 => .array (.object "GrowingUrns$Urn")
  | 2 => .object "GrowingUrns$Kept"
  | 3 => .object "GrowingUrns$Path"
  | 4 => .object "GrowingUrns$Row"
  | 5 => .object "GrowingUrns$Orders"
  | 6 => .object "GrowingUrns$After"
  | 7 => .object "GrowingUrns$Fraction"
  | 8 => .int
  | _ => .int
abbrev wsX80 : List Cond := u_ws RX8 TX8 10
theorem nmX8 : ∀ a, a < 10 → ∀ b, b < 10 → a ≠ b → (TX8 a).2.1 ≠ (TX8 b).2.1 := by decide +kernel
theorem tyX8_ok : ∀ k, k < 10 → parseFieldDescriptor (TX8 k).2.2.1 = some (tyX8 k) := by decide +kernel
abbrev cX8_init : ByteArray := prog_1_method_1_code
def yX8_init : MethodName := ⟨RX8, "<init>", "()V"⟩
abbrev cX8_sheet : ByteArray := prog_1_method_2_code
def yX8_sheet : MethodName := ⟨RX8, "sheet", "(III)I"⟩
abbrev cX8_lay : ByteArray := prog_1_method_3_code
def yX8_lay : MethodName := ⟨RX8, "lay", "(IIJ)I"⟩
abbrev cX8_copy : ByteArray := prog_1_method_4_code
def yX8_copy : MethodName := ⟨RX8, "copy", "(IIIII)I"⟩
abbrev cX8_holds : ByteArray := prog_1_method_5_code
def yX8_holds : MethodName := ⟨RX8, "holds", "(IIJ)I"⟩
abbrev cX8_read : ByteArray := prog_1_method_6_code
def yX8_read : MethodName := ⟨RX8, "read", "(IIIII)I"⟩
abbrev cX8_urn : ByteArray := prog_1_method_7_code
def yX8_urn : MethodName := ⟨RX8, "urn", "(I)I"⟩
abbrev cX8_put : ByteArray := prog_1_method_8_code
def yX8_put : MethodName := ⟨RX8, "put", "(III)I"⟩
abbrev cX8_add : ByteArray := prog_1_method_9_code
def yX8_add : MethodName := ⟨RX8, "add", "(IIII)I"⟩
abbrev cX8_is : ByteArray := prog_1_method_10_code
def yX8_is : MethodName := ⟨RX8, "is", "(III)I"⟩
abbrev cX8_about : ByteArray := prog_1_method_11_code
def yX8_about : MethodName := ⟨RX8, "about", "(II)I"⟩
abbrev cX8_added : ByteArray := prog_1_method_12_code
def yX8_added : MethodName := ⟨RX8, "added", "(III)I"⟩
abbrev cX8_draw : ByteArray := prog_1_method_13_code
def yX8_draw : MethodName := ⟨RX8, "draw", "(II)I"⟩
abbrev cX8_seed : ByteArray := prog_1_method_14_code
def yX8_seed : MethodName := ⟨RX8, "seed", "(I)I"⟩
abbrev cX8_drawn : ByteArray := prog_1_method_15_code
def yX8_drawn : MethodName := ⟨RX8, "drawn", "(I)I"⟩
abbrev cX8_shake : ByteArray := prog_1_method_16_code
def yX8_shake : MethodName := ⟨RX8, "shake", "(II)I"⟩
abbrev cX8_undo : ByteArray := prog_1_method_17_code
def yX8_undo : MethodName := ⟨RX8, "undo", "()I"⟩
abbrev cX8_chance : ByteArray := prog_1_method_18_code
def yX8_chance : MethodName := ⟨RX8, "chance", "(III)I"⟩
abbrev cX8_times : ByteArray := prog_1_method_19_code
def yX8_times : MethodName := ⟨RX8, "times", "(IIII)I"⟩
abbrev cX8_left : ByteArray := prog_1_method_20_code
def yX8_left : MethodName := ⟨RX8, "left", "(IIII)I"⟩
abbrev cX8_stuck : ByteArray := prog_1_method_21_code
def yX8_stuck : MethodName := ⟨RX8, "stuck", "(II)I"⟩
abbrev cX8_mean : ByteArray := prog_1_method_22_code
def yX8_mean : MethodName := ⟨RX8, "mean", "(IIII)I"⟩
abbrev cX8_told : ByteArray := prog_1_method_23_code
def yX8_told : MethodName := ⟨RX8, "told", "(IIIII)I"⟩
abbrev cX8_share : ByteArray := prog_1_method_24_code
def yX8_share : MethodName := ⟨RX8, "share", "(III)I"⟩
abbrev cX8_free : ByteArray := prog_1_method_25_code
def yX8_free : MethodName := ⟨RX8, "free", "(II)I"⟩
abbrev cX8_part : ByteArray := prog_1_method_26_code
def yX8_part : MethodName := ⟨RX8, "part", "(I)J"⟩
abbrev cX8_count : ByteArray := prog_1_method_27_code
def yX8_count : MethodName := ⟨RX8, "count", "(I)I"⟩
abbrev cX8_sheetAt : ByteArray := prog_1_method_28_code
def yX8_sheetAt : MethodName := ⟨RX8, "sheetAt", "(I)LGrowingUrns$Sheet;"⟩
abbrev cX8_urnAt : ByteArray := prog_1_method_29_code
def yX8_urnAt : MethodName := ⟨RX8, "urnAt", "(I)LGrowingUrns$Urn;"⟩
abbrev cX8_areDraws : ByteArray := prog_1_method_30_code
def yX8_areDraws : MethodName := ⟨RX8, "areDraws", "(I)Z"⟩
abbrev cX8_drawsInAll : ByteArray := prog_1_method_31_code
def yX8_drawsInAll : MethodName := ⟨RX8, "drawsInAll", "()I"⟩
abbrev cX8_keepAct : ByteArray := prog_1_method_32_code
def yX8_keepAct : MethodName := ⟨RX8, "keepAct", "()V"⟩
abbrev cX8_findPath : ByteArray := prog_1_method_33_code
def yX8_findPath : MethodName := ⟨RX8, "findPath", "(I)Z"⟩
abbrev cX8_goPath : ByteArray := prog_1_method_34_code
def yX8_goPath : MethodName := ⟨RX8, "goPath", "()V"⟩
abbrev cX8_weighRows : ByteArray := prog_1_method_35_code
def yX8_weighRows : MethodName := ⟨RX8, "weighRows", "(LGrowingUrns$Urn;II)I"⟩
abbrev cX8_common : ByteArray := prog_1_method_36_code
def yX8_common : MethodName := ⟨RX8, "common", "(JJ)J"⟩
def RX9 : String := "GrowingUrnsModel"
def TX9 : u_T := fun k => match k with
  | 0 => ("GrowingUrnsModel", "sheetKind", "[I", true)
  | 1 => ("GrowingUrnsModel", "sheetSize", "[I", true)
  | 2 => ("GrowingUrnsModel", "sheet", "[J", true)
  | 3 => ("GrowingUrnsModel", "spare", "[J", true)
  | 4 => ("GrowingUrnsModel", "urns", "I", false)
  | 5 => ("GrowingUrnsModel", "colours", "[I", true)
  | 6 => ("GrowingUrnsModel", "st", "[I", true)
  | 7 => ("GrowingUrnsModel", "kept", "[I", true)
  | 8 => ("GrowingUrnsModel", "keptMany", "I", false)
  | 9 => ("GrowingUrnsModel", "whole", "J", false)
  | 10 => ("GrowingUrnsModel", "up", "J", false)
  | 11 => ("GrowingUrnsModel", "down", "J", false)
  | 12 => ("GrowingUrnsModel", "steps", "I", false)
  | 13 => ("GrowingUrnsModel", "stepUrn", "[I", true)
  | 14 => ("GrowingUrnsModel", "stepColour", "[I", true)
  | 15 => ("GrowingUrnsModel", "seedThen", "I", false)
  | 16 => ("GrowingUrnsModel", "now", "[I", true)
  | 17 => ("GrowingUrnsModel", "rowUp", "J", false)
  | 18 => ("GrowingUrnsModel", "rowDown", "J", false)
  | 19 => ("GrowingUrnsModel", "weights", "[J", true)
  | 20 => ("GrowingUrnsModel", "deep", "J", false)
  | 21 => ("GrowingUrnsModel", "stuckAbove", "J", false)
  | 22 => ("GrowingUrnsModel", "drawn", "[I", true)
  | 23 => ("GrowingUrnsModel", "there", "[I", true)
  | 24 => ("GrowingUrnsModel", "firstUp", "[J", true)
  | _ => ("GrowingUrnsModel", "firstDown", "[J", true)
def tyX9 : Nat → FieldType := fun k => match k with
  | 0 => .array .int
  | 1 => .array .int
  | 2 => .array .long
  | 3 => .array .long
  | 4 => .int
  | 5 => .array .int
  | 6 => .array .int
  | 7 => .array .int
  | 8 => .int
  | 9 => .long
  | 10 => .long
  | 11 => .long
  | 12 => .int
  | 13 => .array .int
  | 14 => .array .int
  | 15 => .int
  | 16 => .array .int
  | 17 => .long
  | 18 => .long
  | 19 => .array .long
  | 20 => .long
  | 21 => .long
  | 22 => .array .int
  | 23 => .array .int
  | 24 => .array .long
  | _ => .array .long
abbrev wsX90 : List Cond := u_ws RX9 TX9 26
theorem nmX9 : ∀ a, a < 26 → ∀ b, b < 26 → a ≠ b → (TX9 a).2.1 ≠ (TX9 b).2.1 := by decide +kernel
theorem tyX9_ok : ∀ k, k < 26 → parseFieldDescriptor (TX9 k).2.2.1 = some (tyX9 k) := by decide +kernel
abbrev cX9_init : ByteArray := prog_11_method_1_code
def yX9_init : MethodName := ⟨RX9, "<init>", "()V"⟩
abbrev cX9_in : ByteArray := prog_11_method_2_code
def yX9_in : MethodName := ⟨RX9, "in", "(JJJ)Z"⟩
abbrev cX9_isSheet : ByteArray := prog_11_method_3_code
def yX9_isSheet : MethodName := ⟨RX9, "isSheet", "(I)Z"⟩
abbrev cX9_cut : ByteArray := prog_11_method_4_code
def yX9_cut : MethodName := ⟨RX9, "cut", "(IJ)J"⟩
abbrev cX9_sheet : ByteArray := prog_11_method_5_code
def yX9_sheet : MethodName := ⟨RX9, "sheet", "(III)I"⟩
abbrev cX9_placed : ByteArray := prog_11_method_6_code
def yX9_placed : MethodName := ⟨RX9, "placed", "(II)I"⟩
abbrev cX9_lay : ByteArray := prog_11_method_7_code
def yX9_lay : MethodName := ⟨RX9, "lay", "(IIJ)I"⟩
abbrev cX9_copy : ByteArray := prog_11_method_8_code
def yX9_copy : MethodName := ⟨RX9, "copy", "(IIIII)I"⟩
abbrev cX9_holds : ByteArray := prog_11_method_9_code
def yX9_holds : MethodName := ⟨RX9, "holds", "(IIJ)I"⟩
abbrev cX9_isUrn : ByteArray := prog_11_method_10_code
def yX9_isUrn : MethodName := ⟨RX9, "isUrn", "(I)Z"⟩
abbrev cX9_isColour : ByteArray := prog_11_method_11_code
def yX9_isColour : MethodName := ⟨RX9, "isColour", "(II)Z"⟩
abbrev cX9_keep : ByteArray := prog_11_method_12_code
def yX9_keep : MethodName := ⟨RX9, "keep", "()V"⟩
abbrev cX9_read : ByteArray := prog_11_method_13_code
def yX9_read : MethodName := ⟨RX9, "read", "(IIIII)I"⟩
abbrev cX9_urn : ByteArray := prog_11_method_14_code
def yX9_urn : MethodName := ⟨RX9, "urn", "(I)I"⟩
abbrev cX9_put : ByteArray := prog_11_method_15_code
def yX9_put : MethodName := ⟨RX9, "put", "(III)I"⟩
abbrev cX9_add : ByteArray := prog_11_method_16_code
def yX9_add : MethodName := ⟨RX9, "add", "(IIII)I"⟩
abbrev cX9_is : ByteArray := prog_11_method_17_code
def yX9_is : MethodName := ⟨RX9, "is", "(III)I"⟩
abbrev cX9_balls : ByteArray := prog_11_method_18_code
def yX9_balls : MethodName := ⟨RX9, "balls", "(I)I"⟩
abbrev cX9_addedSum : ByteArray := prog_11_method_19_code
def yX9_addedSum : MethodName := ⟨RX9, "addedSum", "(II)I"⟩
abbrev cX9_isEven : ByteArray := prog_11_method_20_code
def yX9_isEven : MethodName := ⟨RX9, "isEven", "(I)Z"⟩
abbrev cX9_isLike : ByteArray := prog_11_method_21_code
def yX9_isLike : MethodName := ⟨RX9, "isLike", "(I)Z"⟩
abbrev cX9_about : ByteArray := prog_11_method_22_code
def yX9_about : MethodName := ⟨RX9, "about", "(II)I"⟩
abbrev cX9_added : ByteArray := prog_11_method_23_code
def yX9_added : MethodName := ⟨RX9, "added", "(III)I"⟩
abbrev cX9_canDraw : ByteArray := prog_11_method_24_code
def yX9_canDraw : MethodName := ⟨RX9, "canDraw", "(II)Z"⟩
abbrev cX9_draws : ByteArray := prog_11_method_25_code
def yX9_draws : MethodName := ⟨RX9, "draws", "(II)V"⟩
abbrev cX9_draw : ByteArray := prog_11_method_26_code
def yX9_draw : MethodName := ⟨RX9, "draw", "(II)I"⟩
abbrev cX9_seed : ByteArray := prog_11_method_27_code
def yX9_seed : MethodName := ⟨RX9, "seed", "(I)I"⟩
abbrev cX9_looks : ByteArray := prog_11_method_28_code
def yX9_looks : MethodName := ⟨RX9, "looks", "(I)Z"⟩
abbrev cX9_doesDraws : ByteArray := prog_11_method_29_code
def yX9_doesDraws : MethodName := ⟨RX9, "doesDraws", "()I"⟩
abbrev cX9_drawn : ByteArray := prog_11_method_30_code
def yX9_drawn : MethodName := ⟨RX9, "drawn", "(I)I"⟩
abbrev cX9_shake : ByteArray := prog_11_method_31_code
def yX9_shake : MethodName := ⟨RX9, "shake", "(II)I"⟩
abbrev cX9_undo : ByteArray := prog_11_method_32_code
def yX9_undo : MethodName := ⟨RX9, "undo", "()I"⟩
abbrev cX9_common : ByteArray := prog_11_method_33_code
def yX9_common : MethodName := ⟨RX9, "common", "(JJ)J"⟩
abbrev cX9_tells : ByteArray := prog_11_method_34_code
def yX9_tells : MethodName := ⟨RX9, "tells", "(JJ)I"⟩
abbrev cX9_part : ByteArray := prog_11_method_35_code
def yX9_part : MethodName := ⟨RX9, "part", "(I)J"⟩
abbrev cX9_follows : ByteArray := prog_11_method_36_code
def yX9_follows : MethodName := ⟨RX9, "follows", "(III)Z"⟩
abbrev cX9_chance : ByteArray := prog_11_method_37_code
def yX9_chance : MethodName := ⟨RX9, "chance", "(III)I"⟩
abbrev cX9_evenFault : ByteArray := prog_11_method_38_code
def yX9_evenFault : MethodName := ⟨RX9, "evenFault", "(II)I"⟩
abbrev cX9_looksAt : ByteArray := prog_11_method_39_code
def yX9_looksAt : MethodName := ⟨RX9, "looksAt", "(III)V"⟩
abbrev cX9_more : ByteArray := prog_11_method_40_code
def yX9_more : MethodName := ⟨RX9, "more", "(II)I"⟩
abbrev cX9_at : ByteArray := prog_11_method_41_code
def yX9_at : MethodName := ⟨RX9, "at", "(II)I"⟩
abbrev cX9_goes : ByteArray := prog_11_method_42_code
def yX9_goes : MethodName := ⟨RX9, "goes", "(IIIIII)V"⟩
abbrev cX9_spreads : ByteArray := prog_11_method_43_code
def yX9_spreads : MethodName := ⟨RX9, "spreads", "(IIIJJII)V"⟩
abbrev cX9_isAsked : ByteArray := prog_11_method_44_code
def yX9_isAsked : MethodName := ⟨RX9, "isAsked", "(II)Z"⟩
abbrev cX9_times : ByteArray := prog_11_method_45_code
def yX9_times : MethodName := ⟨RX9, "times", "(IIII)I"⟩
abbrev cX9_left : ByteArray := prog_11_method_46_code
def yX9_left : MethodName := ⟨RX9, "left", "(IIII)I"⟩
abbrev cX9_stuck : ByteArray := prog_11_method_47_code
def yX9_stuck : MethodName := ⟨RX9, "stuck", "(II)I"⟩
abbrev cX9_mean : ByteArray := prog_11_method_48_code
def yX9_mean : MethodName := ⟨RX9, "mean", "(IIII)I"⟩
abbrev cX9_told : ByteArray := prog_11_method_49_code
def yX9_told : MethodName := ⟨RX9, "told", "(IIIII)I"⟩
abbrev cX9_sum : ByteArray := prog_11_method_50_code
def yX9_sum : MethodName := ⟨RX9, "sum", "(I)J"⟩
abbrev cX9_share : ByteArray := prog_11_method_51_code
def yX9_share : MethodName := ⟨RX9, "share", "(III)I"⟩
abbrev cX9_free : ByteArray := prog_11_method_52_code
def yX9_free : MethodName := ⟨RX9, "free", "(II)I"⟩
abbrev cX9_count : ByteArray := prog_11_method_53_code
def yX9_count : MethodName := ⟨RX9, "count", "(I)I"⟩
def RJ10 : String := "java/lang/System"
def TJ10 : u_T := fun k => match k with
  | _ => ("", "", "", false)
def tyJ10 : Nat → FieldType := fun k => match k with
  | _ => .int
abbrev wsJ100 : List Cond := u_ws RJ10 TJ10 0
theorem nmJ10 : ∀ a, a < 0 → ∀ b, b < 0 → a ≠ b → (TJ10 a).2.1 ≠ (TJ10 b).2.1 := by decide +kernel
theorem tyJ10_ok : ∀ k, k < 0 → parseFieldDescriptor (TJ10 k).2.2.1 = some (tyJ10 k) := by decide +kernel
def RJ7 : String := "java/util/Arrays"
def TJ7 : u_T := fun k => match k with
  | _ => ("", "", "", false)
def tyJ7 : Nat → FieldType := fun k => match k with
  | _ => .int
abbrev wsJ70 : List Cond := u_ws RJ7 TJ7 0
theorem nmJ7 : ∀ a, a < 0 → ∀ b, b < 0 → a ≠ b → (TJ7 a).2.1 ≠ (TJ7 b).2.1 := by decide +kernel
theorem tyJ7_ok : ∀ k, k < 0 → parseFieldDescriptor (TJ7 k).2.2.1 = some (tyJ7 k) := by decide +kernel
abbrev cJ7_fill_d0a16 : ByteArray := prog_13_method_101_code
def yJ7_fill_d0a16 : MethodName := ⟨RJ7, "fill", "([JJ)V"⟩
abbrev cJ7_fill_53178 : ByteArray := prog_13_method_103_code
def yJ7_fill_53178 : MethodName := ⟨RJ7, "fill", "([II)V"⟩
def RL : String := "GrowingUrnsLaw"
abbrev cL_law : ByteArray := code
def yL_law : MethodName := ⟨RL, "law", "([I)Z"⟩
abbrev vwCl : List vw_C := [(RX0, TX0, 11), (RX1, TX1, 3), (RX2, TX2, 3), (RX3, TX3, 2), (RX4, TX4, 4), (RX5, TX5, 3), (RX6, TX6, 3), (RX7, TX7, 5), (RX8, TX8, 10), (RX9, TX9, 26)]
