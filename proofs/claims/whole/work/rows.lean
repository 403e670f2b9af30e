section
-- ===== PART A: goes FIRST, ahead of the names: the tables' words, and 'selects' of the private methods out of them =====
/-- a private method of a class that the tables say can be made, by its rows of tables_1 -/
def lw_okq (q : MethodName × Nat) : Prop := (q.1.cls ≠ "java/lang/invoke/MethodHandle" ∧ q.1.cls ≠ "java/lang/invoke/VarHandle") ∧ Cond.instantiable q.1.cls q.2 ∈ tables_1 ∧ Cond.privateMethod q.1 ∈ tables_1 ∧ Cond.instanceMethod q.1 ∈ tables_1
theorem lw_p0 : lw_okq (⟨"DueWheels", "isTickAhead", "(J)Z"⟩, 4) := ⟨⟨by decide +kernel, by decide +kernel⟩, List.mem_of_getElem? (i := 12) (by decide +kernel), List.mem_of_getElem? (i := 163) (by decide +kernel), List.mem_of_getElem? (i := 164) (by decide +kernel)⟩
theorem lw_p1 : lw_okq (⟨"DueWheels", "openRepeated", "(IJJII)J"⟩, 4) := ⟨⟨by decide +kernel, by decide +kernel⟩, List.mem_of_getElem? (i := 12) (by decide +kernel), List.mem_of_getElem? (i := 217) (by decide +kernel), List.mem_of_getElem? (i := 218) (by decide +kernel)⟩
theorem lw_p2 : lw_okq (⟨"DueWheelsModel", "isTick", "(J)Z"⟩, 9) := ⟨⟨by decide +kernel, by decide +kernel⟩, List.mem_of_getElem? (i := 461) (by decide +kernel), List.mem_of_getElem? (i := 505) (by decide +kernel), List.mem_of_getElem? (i := 506) (by decide +kernel)⟩
theorem lw_p3 : lw_okq (⟨"DueWheelsModel", "freeOne", "()I"⟩, 9) := ⟨⟨by decide +kernel, by decide +kernel⟩, List.mem_of_getElem? (i := 461) (by decide +kernel), List.mem_of_getElem? (i := 511) (by decide +kernel), List.mem_of_getElem? (i := 512) (by decide +kernel)⟩
theorem lw_p4 : lw_okq (⟨"DueWheelsModel", "get", "(II)J"⟩, 9) := ⟨⟨by decide +kernel, by decide +kernel⟩, List.mem_of_getElem? (i := 461) (by decide +kernel), List.mem_of_getElem? (i := 515) (by decide +kernel), List.mem_of_getElem? (i := 516) (by decide +kernel)⟩
theorem lw_p5 : lw_okq (⟨"DueWheelsModel", "set", "(II)I"⟩, 9) := ⟨⟨by decide +kernel, by decide +kernel⟩, List.mem_of_getElem? (i := 461) (by decide +kernel), List.mem_of_getElem? (i := 520) (by decide +kernel), List.mem_of_getElem? (i := 521) (by decide +kernel)⟩
theorem lw_p6 : lw_okq (⟨"DueWheelsModel", "keep", "()V"⟩, 9) := ⟨⟨by decide +kernel, by decide +kernel⟩, List.mem_of_getElem? (i := 461) (by decide +kernel), List.mem_of_getElem? (i := 524) (by decide +kernel), List.mem_of_getElem? (i := 525) (by decide +kernel)⟩
theorem lw_p7 : lw_okq (⟨"DueWheelsModel", "put", "(IIJ)V"⟩, 9) := ⟨⟨by decide +kernel, by decide +kernel⟩, List.mem_of_getElem? (i := 461) (by decide +kernel), List.mem_of_getElem? (i := 528) (by decide +kernel), List.mem_of_getElem? (i := 529) (by decide +kernel)⟩
theorem lw_p8 : lw_okq (⟨"DueWheelsModel", "line", "(I)V"⟩, 9) := ⟨⟨by decide +kernel, by decide +kernel⟩, List.mem_of_getElem? (i := 461) (by decide +kernel), List.mem_of_getElem? (i := 533) (by decide +kernel), List.mem_of_getElem? (i := 534) (by decide +kernel)⟩
theorem lw_p9 : lw_okq (⟨"DueWheelsModel", "tick", "(IJ)V"⟩, 9) := ⟨⟨by decide +kernel, by decide +kernel⟩, List.mem_of_getElem? (i := 461) (by decide +kernel), List.mem_of_getElem? (i := 537) (by decide +kernel), List.mem_of_getElem? (i := 538) (by decide +kernel)⟩
theorem lw_p10 : lw_okq (⟨"DueWheelsModel", "repeated", "(IJJII)J"⟩, 9) := ⟨⟨by decide +kernel, by decide +kernel⟩, List.mem_of_getElem? (i := 461) (by decide +kernel), List.mem_of_getElem? (i := 545) (by decide +kernel), List.mem_of_getElem? (i := 546) (by decide +kernel)⟩
theorem lw_p11 : lw_okq (⟨"DueWheelsModel", "isDue", "(I)Z"⟩, 9) := ⟨⟨by decide +kernel, by decide +kernel⟩, List.mem_of_getElem? (i := 461) (by decide +kernel), List.mem_of_getElem? (i := 565) (by decide +kernel), List.mem_of_getElem? (i := 566) (by decide +kernel)⟩
theorem lw_p12 : lw_okq (⟨"DueWheelsModel", "waits", "(I)Z"⟩, 9) := ⟨⟨by decide +kernel, by decide +kernel⟩, List.mem_of_getElem? (i := 461) (by decide +kernel), List.mem_of_getElem? (i := 574) (by decide +kernel), List.mem_of_getElem? (i := 575) (by decide +kernel)⟩
theorem lw_p13 : lw_okq (⟨"DueWheelsModel", "hasTick", "(I)Z"⟩, 9) := ⟨⟨by decide +kernel, by decide +kernel⟩, List.mem_of_getElem? (i := 461) (by decide +kernel), List.mem_of_getElem? (i := 583) (by decide +kernel), List.mem_of_getElem? (i := 584) (by decide +kernel)⟩
theorem lw_p14 : lw_okq (⟨"DueWheelsModel", "isBehind", "(II)Z"⟩, 9) := ⟨⟨by decide +kernel, by decide +kernel⟩, List.mem_of_getElem? (i := 461) (by decide +kernel), List.mem_of_getElem? (i := 592) (by decide +kernel), List.mem_of_getElem? (i := 593) (by decide +kernel)⟩
theorem lw_p15 : lw_okq (⟨"DueWheelsModel", "rests", "(I)Z"⟩, 9) := ⟨⟨by decide +kernel, by decide +kernel⟩, List.mem_of_getElem? (i := 461) (by decide +kernel), List.mem_of_getElem? (i := 602) (by decide +kernel), List.mem_of_getElem? (i := 603) (by decide +kernel)⟩
def lw_privs_1 : List (MethodName × Nat) := [(⟨"DueWheels", "isTickAhead", "(J)Z"⟩, 4), (⟨"DueWheels", "openRepeated", "(IJJII)J"⟩, 4), (⟨"DueWheelsModel", "isTick", "(J)Z"⟩, 9), (⟨"DueWheelsModel", "freeOne", "()I"⟩, 9), (⟨"DueWheelsModel", "get", "(II)J"⟩, 9), (⟨"DueWheelsModel", "set", "(II)I"⟩, 9), (⟨"DueWheelsModel", "keep", "()V"⟩, 9), (⟨"DueWheelsModel", "put", "(IIJ)V"⟩, 9), (⟨"DueWheelsModel", "line", "(I)V"⟩, 9), (⟨"DueWheelsModel", "tick", "(IJ)V"⟩, 9), (⟨"DueWheelsModel", "repeated", "(IJJII)J"⟩, 9), (⟨"DueWheelsModel", "isDue", "(I)Z"⟩, 9), (⟨"DueWheelsModel", "waits", "(I)Z"⟩, 9), (⟨"DueWheelsModel", "hasTick", "(I)Z"⟩, 9), (⟨"DueWheelsModel", "isBehind", "(II)Z"⟩, 9), (⟨"DueWheelsModel", "rests", "(I)Z"⟩, 9)]
theorem lw_r1 : ∀ q ∈ lw_privs_1, lw_okq q := List.forall_mem_cons.mpr ⟨lw_p0, List.forall_mem_cons.mpr ⟨lw_p1, List.forall_mem_cons.mpr ⟨lw_p2, List.forall_mem_cons.mpr ⟨lw_p3, List.forall_mem_cons.mpr ⟨lw_p4, List.forall_mem_cons.mpr ⟨lw_p5, List.forall_mem_cons.mpr ⟨lw_p6, List.forall_mem_cons.mpr ⟨lw_p7, List.forall_mem_cons.mpr ⟨lw_p8, List.forall_mem_cons.mpr ⟨lw_p9, List.forall_mem_cons.mpr ⟨lw_p10, List.forall_mem_cons.mpr ⟨lw_p11, List.forall_mem_cons.mpr ⟨lw_p12, List.forall_mem_cons.mpr ⟨lw_p13, List.forall_mem_cons.mpr ⟨lw_p14, List.forall_mem_cons.mpr ⟨lw_p15, fun _ h => absurd h List.not_mem_nil⟩⟩⟩⟩⟩⟩⟩⟩⟩⟩⟩⟩⟩⟩⟩⟩
theorem lw_p16 : lw_okq (⟨"DueWheelsModel", "nextTick", "()J"⟩, 9) := ⟨⟨by decide +kernel, by decide +kernel⟩, List.mem_of_getElem? (i := 461) (by decide +kernel), List.mem_of_getElem? (i := 624) (by decide +kernel), List.mem_of_getElem? (i := 625) (by decide +kernel)⟩
theorem lw_p17 : lw_okq (⟨"DueWheelsModel", "findAll", "(J)V"⟩, 9) := ⟨⟨by decide +kernel, by decide +kernel⟩, List.mem_of_getElem? (i := 461) (by decide +kernel), List.mem_of_getElem? (i := 628) (by decide +kernel), List.mem_of_getElem? (i := 629) (by decide +kernel)⟩
theorem lw_p18 : lw_okq (⟨"DueWheelsModel", "find", "(IJZ)V"⟩, 9) := ⟨⟨by decide +kernel, by decide +kernel⟩, List.mem_of_getElem? (i := 461) (by decide +kernel), List.mem_of_getElem? (i := 632) (by decide +kernel), List.mem_of_getElem? (i := 633) (by decide +kernel)⟩
theorem lw_p19 : lw_okq (⟨"DueWheelsModel", "pass", "(J)V"⟩, 9) := ⟨⟨by decide +kernel, by decide +kernel⟩, List.mem_of_getElem? (i := 461) (by decide +kernel), List.mem_of_getElem? (i := 637) (by decide +kernel), List.mem_of_getElem? (i := 638) (by decide +kernel)⟩
theorem lw_p20 : lw_okq (⟨"DueWheelsModel", "goAll", "(J)V"⟩, 9) := ⟨⟨by decide +kernel, by decide +kernel⟩, List.mem_of_getElem? (i := 461) (by decide +kernel), List.mem_of_getElem? (i := 647) (by decide +kernel), List.mem_of_getElem? (i := 648) (by decide +kernel)⟩
theorem lw_p21 : lw_okq (⟨"DueWheelsModel", "tell", "(IJ)V"⟩, 9) := ⟨⟨by decide +kernel, by decide +kernel⟩, List.mem_of_getElem? (i := 461) (by decide +kernel), List.mem_of_getElem? (i := 653) (by decide +kernel), List.mem_of_getElem? (i := 654) (by decide +kernel)⟩
theorem lw_p22 : lw_okq (⟨"DueWheelsModel", "goesOn", "(IJ)V"⟩, 9) := ⟨⟨by decide +kernel, by decide +kernel⟩, List.mem_of_getElem? (i := 461) (by decide +kernel), List.mem_of_getElem? (i := 657) (by decide +kernel), List.mem_of_getElem? (i := 658) (by decide +kernel)⟩
theorem lw_p23 : lw_okq (⟨"DueWheelsModel", "settled", "()I"⟩, 9) := ⟨⟨by decide +kernel, by decide +kernel⟩, List.mem_of_getElem? (i := 461) (by decide +kernel), List.mem_of_getElem? (i := 673) (by decide +kernel), List.mem_of_getElem? (i := 674) (by decide +kernel)⟩
theorem lw_p24 : lw_okq (⟨"DueWheelsModel", "gather", "()V"⟩, 9) := ⟨⟨by decide +kernel, by decide +kernel⟩, List.mem_of_getElem? (i := 461) (by decide +kernel), List.mem_of_getElem? (i := 677) (by decide +kernel), List.mem_of_getElem? (i := 678) (by decide +kernel)⟩
theorem lw_p25 : lw_okq (⟨"DueWheelsModel", "isAhead", "(II)Z"⟩, 9) := ⟨⟨by decide +kernel, by decide +kernel⟩, List.mem_of_getElem? (i := 461) (by decide +kernel), List.mem_of_getElem? (i := 681) (by decide +kernel), List.mem_of_getElem? (i := 682) (by decide +kernel)⟩
theorem lw_p26 : lw_okq (⟨"DueWheelsModel", "fastIn", "(I)J"⟩, 9) := ⟨⟨by decide +kernel, by decide +kernel⟩, List.mem_of_getElem? (i := 461) (by decide +kernel), List.mem_of_getElem? (i := 685) (by decide +kernel), List.mem_of_getElem? (i := 686) (by decide +kernel)⟩
theorem lw_p27 : lw_okq (⟨"DueWheelsModel", "wheelOf", "(J)I"⟩, 9) := ⟨⟨by decide +kernel, by decide +kernel⟩, List.mem_of_getElem? (i := 461) (by decide +kernel), List.mem_of_getElem? (i := 697) (by decide +kernel), List.mem_of_getElem? (i := 698) (by decide +kernel)⟩
theorem lw_p28 : lw_okq (⟨"DueWheelsModel", "liesIn", "(III)Z"⟩, 9) := ⟨⟨by decide +kernel, by decide +kernel⟩, List.mem_of_getElem? (i := 461) (by decide +kernel), List.mem_of_getElem? (i := 717) (by decide +kernel), List.mem_of_getElem? (i := 718) (by decide +kernel)⟩
theorem lw_p29 : lw_okq (⟨"DueWheelsModel", "manyOf", "(I)I"⟩, 9) := ⟨⟨by decide +kernel, by decide +kernel⟩, List.mem_of_getElem? (i := 461) (by decide +kernel), List.mem_of_getElem? (i := 733) (by decide +kernel), List.mem_of_getElem? (i := 734) (by decide +kernel)⟩
def lw_privs_2 : List (MethodName × Nat) := [(⟨"DueWheelsModel", "nextTick", "()J"⟩, 9), (⟨"DueWheelsModel", "findAll", "(J)V"⟩, 9), (⟨"DueWheelsModel", "find", "(IJZ)V"⟩, 9), (⟨"DueWheelsModel", "pass", "(J)V"⟩, 9), (⟨"DueWheelsModel", "goAll", "(J)V"⟩, 9), (⟨"DueWheelsModel", "tell", "(IJ)V"⟩, 9), (⟨"DueWheelsModel", "goesOn", "(IJ)V"⟩, 9), (⟨"DueWheelsModel", "settled", "()I"⟩, 9), (⟨"DueWheelsModel", "gather", "()V"⟩, 9), (⟨"DueWheelsModel", "isAhead", "(II)Z"⟩, 9), (⟨"DueWheelsModel", "fastIn", "(I)J"⟩, 9), (⟨"DueWheelsModel", "wheelOf", "(J)I"⟩, 9), (⟨"DueWheelsModel", "liesIn", "(III)Z"⟩, 9), (⟨"DueWheelsModel", "manyOf", "(I)I"⟩, 9)]
theorem lw_r2 : ∀ q ∈ lw_privs_2, lw_okq q := List.forall_mem_cons.mpr ⟨lw_p16, List.forall_mem_cons.mpr ⟨lw_p17, List.forall_mem_cons.mpr ⟨lw_p18, List.forall_mem_cons.mpr ⟨lw_p19, List.forall_mem_cons.mpr ⟨lw_p20, List.forall_mem_cons.mpr ⟨lw_p21, List.forall_mem_cons.mpr ⟨lw_p22, List.forall_mem_cons.mpr ⟨lw_p23, List.forall_mem_cons.mpr ⟨lw_p24, List.forall_mem_cons.mpr ⟨lw_p25, List.forall_mem_cons.mpr ⟨lw_p26, List.forall_mem_cons.mpr ⟨lw_p27, List.forall_mem_cons.mpr ⟨lw_p28, List.forall_mem_cons.mpr ⟨lw_p29, fun _ h => absurd h List.not_mem_nil⟩⟩⟩⟩⟩⟩⟩⟩⟩⟩⟩⟩⟩⟩
def lw_privs : List (MethodName × Nat) := lw_privs_1 ++ (lw_privs_2)
def lw_tbl : List Cond := k2_sels lw_privs ++ tables_1
theorem lw_privs_ok : ∀ q ∈ lw_privs, lw_okq q := by
  show ∀ q ∈ lw_privs_1 ++ (lw_privs_2), lw_okq q
  exact List.forall_mem_append.mpr ⟨lw_r1, lw_r2⟩
end
section
def va_AOA (ty : FieldType) (U : State) : Prop := (Cond.arrayOver (.array ty)).before #[] U = true
theorem va_AOA.use {ty : FieldType} {A : Array Value} {U : State} (h : va_AOA ty U) : (Cond.arrayOver (.array ty)).before A U = true := h
/-! ===== BEGIN words of one list among another's, by their places ===== -/
theorem goodIn_r {big : List Cond} (ws : List Cond) (ps : List Nat) (hp : ws = ps.filterMap (fun i => big[i]?)) (h : ws.all goodWord = true) : GoodIn big ws := by
  intro w hw
  have h1 := List.all_eq_true.mp h w hw
  rw [hp] at hw
  obtain ⟨i, -, hi⟩ := List.mem_filterMap.mp hw
  have hm : w ∈ big := by first | exact List.mem_of_getElem? hi | exact List.getElem?_mem hi
  exact ⟨hm, good_of_word h1⟩
theorem goodIn_app {big a b : List Cond} (ha : GoodIn big a) (hb : GoodIn big b) : GoodIn big (a ++ b) := fun w h => (List.mem_append.mp h).elim (ha w) (hb w)
theorem goodIn_ca {big a b : List Cond} {c : Cond} (ha : GoodIn big (c :: a)) (hb : GoodIn big b) : GoodIn big (c :: (a ++ b)) := fun w h => (List.mem_cons.mp h).elim (fun e => ha w (List.mem_cons.mpr (Or.inl e))) (fun h => (List.mem_append.mp h).elim (fun h => ha w (List.mem_cons.mpr (Or.inr h))) (hb w))
theorem goodIn_sub {big ws : List Cond} (hm : ∀ w ∈ ws, w ∈ big) (h : ws.all goodWord = true) : GoodIn big ws := fun w hw => ⟨hm w hw, good_of_word (List.all_eq_true.mp h w hw)⟩
/-! ===== END ===== -/

/-! ===== BEGIN new T[n][m]: the outer array a place, the inner ones among the pooled ===== -/
/-- f, but v at every address of l -/
def vr_up {α : Type} (f : Nat → α) (l : List Nat) (v : α) : Nat → α := fun a => if a ∈ l then v else f a
theorem vr_up_in {α : Type} {f : Nat → α} {l : List Nat} {v : α} {a : Nat} (h : a ∈ l) : vr_up f l v a = v := if_pos h
theorem vr_up_ne {α : Type} {f : Nat → α} {l : List Nat} {v : α} {a : Nat} (h : a ∉ l) : vr_up f l v a = f a := if_neg h
theorem vr_rows {L l : List Nat} {f : Nat → va_E} {e : va_E} (h : ∀ a, a ∈ l → a ∉ L) : va_pl L f ++ l.map (fun a => (a, e)) = va_pl (L ++ l) (vr_up f l e) := by
  unfold va_pl
  rw [List.map_append]
  congr 1
  · apply List.map_congr_left
    intro a ha
    rw [vr_up_ne (fun q => h a q ha)]
  · apply List.map_congr_left
    intro a ha
    rw [vr_up_in ha]
theorem vr_lay {X rows : va_W} {x : Nat × va_E} {pl : va_W} {D : va_G} {cl : List vw_C} {H : Heap} (hP : va_P D cl (((X ++ pl) ++ [x]) ++ rows) H) : va_P D cl ((X ++ [x]) ++ (pl ++ rows)) H := by
  rw [List.append_assoc (X ++ pl)] at hP
  have h := va_P.swap hP
  rw [← List.append_assoc X] at h
  have h2 := va_P.swap h
  rw [List.append_assoc (X ++ [x])] at h2
  exact h2
theorem vr_layD {X rows : va_W} {x : Nat × va_E} {pl : va_W} {A : Nat → Prop} (hD : va_D A (((X ++ pl) ++ [x]) ++ rows)) : va_D A ((X ++ [x]) ++ (pl ++ rows)) := by
  rw [List.append_assoc (X ++ pl)] at hD
  have h := va_D.swap hD
  rw [← List.append_assoc X] at h
  have h2 := va_D.swap h
  rw [List.append_assoc (X ++ [x])] at h2
  exact h2
theorem vr_outer (c : ClassId) (N h0 : Nat) : ∀ i : Nat, Jvm.Free.Multi.outerC c N h0 i = arrV c N (fun j => va_rf (if j < i then some (h0 + 1 + j) else none))
  | 0 => by
    show ({ cls := c, slots := Array.replicate N .null, vm := .none } : Cell) = _
    rw [arrV_new]
    refine congrArg (arrV c N) (funext fun j => ?_)
    simp [va_rf]
  | i + 1 => by
    show (Jvm.Free.Multi.outerC c N h0 i).setSlot i (.ref (h0 + 1 + i)) = _
    rw [vr_outer c N h0 i, arrV_store]
    refine congrArg (arrV c N) (funext fun j => ?_)
    by_cases e : j = i
    · subst e
      simp [updV, va_rf]
    · by_cases h : j < i
      · simp [updV, e, h, Nat.lt_succ_of_lt h]
      · simp [updV, e, h, show ¬ j < i + 1 by omega]
section VGM
variable {p : Program} {l : Launch} {e : Env} {R : Room} {s : State} {m : MethodId} {args : Array Value} {below : List Frame} {meth : Method} {c : Code} {H : Heap} {locs : List Loc} {cells slots : Nat} {Q : State → Prop}
variable {cc : ByteArray} {pc : Nat} {ls : Array Slot} {rest : List Value} {D : va_G} {cl : List vw_C} {A : Nat → Prop} {a : Nat} {tys : List (ClassId × FieldType)} {ws : va_W} {H0 : Heap}
theorem va_mna {X : va_W} {L : List Nat} {f : Nat → va_E} {cc : ByteArray} (hexec : p.tables.exec = Jvm.exec) (hb : c.code = cc) {own : String} {index : Nat} {ty : FieldType} {cy : ClassId} (hown : s.vm.findClass own = some m.cls) (hclink : (Cond.classLink own index ("[" ++ (FieldType.array ty).toString)).before args s = true) (hover : va_AOA ty s) (harr : (Cond.arrayClass ty).before args s = true) (hcy : s.vm.findClass (FieldType.array ty).toString = some cy)
    (hK : va_K D cl tys s) (hP : va_P D cl (X ++ va_pl L f) H) (hD : va_D A (X ++ va_pl L f)) (hS : va_S A H0 H locs) (hA : ∀ q, H0.size ≤ q → A q) {n k : Int32} {N' K' : Nat} {z : vp_A} (hn : ¬ n < 0) (hk : ¬ k < 0) (hN : n.toNatClampNeg = N') (hM : k.toNatClampNeg = K')
    (hb1 : N' * 4 ≤ 536870912) (hb2 : K' * componentBytes ty ≤ 536870912) (hb3 : K' ≤ 536870912) (hdf : fits ty (defaultValue ty) = true) (hdd : (defaultValue ty).isDefault = true) (hcells : cells + (1 + N') ≤ R.cells) (hslots : slots + (N' + N' * K') ≤ R.slots) (hz : ∀ c : ClassId, Jvm.Free.Multi.innerC c K' (defaultValue ty) = vp_cell c z) (hdg : decode cc pc = .ok (.multianewarray index 2, 4))
    (kk : ∀ (q : Nat) (r : Nat → Nat) (cA : ClassId) (H1 : Heap), (∀ i j : Nat, i < N' → j < N' → r i = r j → i = j) → (∀ i : Nat, i < N' → r i ∉ L) → va_K D cl (tys ++ [(cA, .array ty)]) s →
      va_P D cl ((X ++ [(q, .inl (cA, N', .inr (.inr (.inr (.inr (fun i => if i < N' then some (r i) else none))))))]) ++ va_pl (L ++ (List.range N').map r) (vr_up f ((List.range N').map r) (.inl (cy, z)))) H1 → va_D A ((X ++ [(q, .inl (cA, N', .inr (.inr (.inr (.inr (fun i => if i < N' then some (r i) else none))))))]) ++ va_pl (L ++ (List.range N').map r) (vr_up f ((List.range N').map r) (.inl (cy, z)))) → va_S A H0 H1 locs →
      W p l e R s m args below meth c H1 locs (cells + 1 + N') (slots + N' + N' * K') Q (F0 m (pc + 4) ls (.ref q :: rest))) : W p l e R s m args below meth c H locs cells slots Q (F0 m pc ls (.int k :: .int n :: rest)) := by
  subst hN
  subst hM
  intro T hT Xs
  obtain ⟨vm₁, cA, comp, -, fA, fC, hO, -, X', step⟩ := Xs.multianewarray2F hexec hown hclink (va_AOA.use hover) harr (g := F0 m pc ls (.int k :: .int n :: rest)) rfl (by rw [hb]; exact hdg) rfl hn hk hb1 hb2 hb3 hdf hdd hcells hslots
  have ec : some cy = some comp := hcy.symm.trans fC
  cases ec
  generalize hF : Jvm.Free.Multi.fill (T.setVm vm₁) cA cy n.toNatClampNeg k.toNatClampNeg (defaultValue ty) n.toNatClampNeg = F at X' step
  have hTh : (T.setVm vm₁).heap = H := hT
  obtain ⟨f1, f2, -, -⟩ := Jvm.Free.Multi.fill_facts (T.setVm vm₁) cA cy n.toNatClampNeg k.toNatClampNeg (defaultValue ty) n.toNatClampNeg
  rw [hF, hTh] at f1 f2
  have hold : ∀ x : Nat, x < H.size → F.heap[x]? = H[x]? := fun x hx => by
    have := Jvm.Free.Multi.fill_old (T.setVm vm₁) cA cy n.toNatClampNeg k.toNatClampNeg (defaultValue ty) (a := x) (by rw [hTh]; exact hx) n.toNatClampNeg
    rw [hF, hTh] at this
    exact this
  have hrow : ∀ j : Nat, j < n.toNatClampNeg → F.heap[H.size + 1 + j]? = some (vp_cell cy z) := fun j hj => by
    have := Jvm.Free.Multi.fill_inner (T.setVm vm₁) cA cy n.toNatClampNeg k.toNatClampNeg (defaultValue ty) n.toNatClampNeg j hj
    rw [hF, hTh, hz] at this
    exact this
  have hout : Jvm.Free.Multi.outerC cA n.toNatClampNeg H.size n.toNatClampNeg = vp_cell cA (n.toNatClampNeg, .inr (.inr (.inr (.inr (fun i => if i < n.toNatClampNeg then some (H.size + 1 + i) else none))))) := by
    rw [vp_cell_q]
    exact vr_outer cA n.toNatClampNeg H.size n.toNatClampNeg
  rw [hout] at f2
  have hlt : ∀ a, a ∈ L → a < H.size := fun a ha => by
    obtain ⟨k9, hk9⟩ := va_pl_get (X := X) (f := f) ha
    exact (hP k9 _ hk9).lt
  have hnl : ∀ i : Nat, i < n.toNatClampNeg → H.size + 1 + i ∉ L := fun i _ h => by
    have := hlt _ h
    omega
  have hnm : ∀ a, a ∈ (List.range n.toNatClampNeg).map (fun i => H.size + 1 + i) → a ∉ L := fun a ha h => by
    obtain ⟨i, -, rfl⟩ := List.mem_map.mp ha
    have := hlt _ h
    omega
  have hP0 : va_P D cl (X ++ va_pl L f) F.heap := hP.kept (fun k9 x hx => hold x.1 ((hP k9 x hx).lt))
  have hP1 : va_P D cl ((X ++ va_pl L f) ++ [(H.size, .inl (cA, n.toNatClampNeg, .inr (.inr (.inr (.inr (fun i => if i < n.toNatClampNeg then some (H.size + 1 + i) else none))))))]) F.heap := hP0.app (fun k9 x hx => by
    have h0 : k9 < 1 := (List.getElem?_eq_some_iff.mp hx).1
    rw [show k9 = 0 by omega] at hx
    cases hx
    exact f2)
  have hP2 : va_P D cl (((X ++ va_pl L f) ++ [(H.size, .inl (cA, n.toNatClampNeg, .inr (.inr (.inr (.inr (fun i => if i < n.toNatClampNeg then some (H.size + 1 + i) else none))))))]) ++ ((List.range n.toNatClampNeg).map (fun i => H.size + 1 + i)).map (fun a => (a, .inl (cy, z)))) F.heap := hP1.app (fun k9 x hx => by
    obtain ⟨a, ha, rfl⟩ := List.mem_map.mp (List.mem_of_getElem? hx)
    obtain ⟨i, hi, rfl⟩ := List.mem_map.mp ha
    exact hrow i (List.mem_range.mp hi))
  have hD2 : va_D A (((X ++ va_pl L f) ++ [(H.size, .inl (cA, n.toNatClampNeg, .inr (.inr (.inr (.inr (fun i => if i < n.toNatClampNeg then some (H.size + 1 + i) else none))))))]) ++ ((List.range n.toNatClampNeg).map (fun i => H.size + 1 + i)).map (fun a => (a, .inl (cy, z)))) := by
    have hD1 := hD.push (e := .inl (cA, n.toNatClampNeg, .inr (.inr (.inr (.inr (fun i => if i < n.toNatClampNeg then some (H.size + 1 + i) else none)))))) hP rfl (hA _ hS.1)
    generalize hW1 : (X ++ va_pl L f) ++ [(H.size, .inl (cA, n.toNatClampNeg, .inr (.inr (.inr (.inr (fun i => if i < n.toNatClampNeg then some (H.size + 1 + i) else none))))))] = W1 at hD1 hP1 ⊢
    have hle : ∀ (k9 : Nat) (x : Nat × va_E), W1[k9]? = some x → x.1 ≤ H.size := fun k9 x hx => by
      rw [← hW1] at hx
      by_cases hl : k9 < (X ++ va_pl L f).length
      · rw [List.getElem?_append_left hl] at hx
        exact Nat.le_of_lt ((hP k9 x hx).lt)
      · rw [List.getElem?_append_right (by omega)] at hx
        have h0 : k9 - (X ++ va_pl L f).length < 1 := (List.getElem?_eq_some_iff.mp hx).1
        rw [show k9 - (X ++ va_pl L f).length = 0 by omega] at hx
        cases hx
        exact Nat.le_refl _
    have hr : ∀ (k9 : Nat) (x : Nat × va_E), (((List.range n.toNatClampNeg).map (fun i => H.size + 1 + i)).map (fun a => ((a, .inl (cy, z)) : Nat × va_E)))[k9]? = some x → x.1 = H.size + 1 + k9 := fun k9 x hx => by
      rw [List.getElem?_map, List.getElem?_map] at hx
      by_cases h9 : k9 < n.toNatClampNeg
      · rw [List.getElem?_range h9] at hx
        cases hx
        rfl
      · have hn0 : (List.range n.toNatClampNeg)[k9]? = none := List.getElem?_eq_none (by rw [List.length_range]; omega)
        rw [hn0] at hx
        cases hx
    refine ⟨fun i j x y hi hj hxy => ?_, fun k9 x hx => ?_⟩
    · by_cases h1 : i < W1.length <;> by_cases h2 : j < W1.length
      · rw [List.getElem?_append_left h1] at hi
        rw [List.getElem?_append_left h2] at hj
        exact hD1.1 i j x y hi hj hxy
      · rw [List.getElem?_append_left h1] at hi
        rw [List.getElem?_append_right (by omega)] at hj
        have := hle _ _ hi
        have := hr _ _ hj
        omega
      · rw [List.getElem?_append_right (by omega)] at hi
        rw [List.getElem?_append_left h2] at hj
        have := hle _ _ hj
        have := hr _ _ hi
        omega
      · rw [List.getElem?_append_right (by omega)] at hi hj
        have := hr _ _ hi
        have := hr _ _ hj
        omega
    · by_cases h1 : k9 < W1.length
      · rw [List.getElem?_append_left h1] at hx
        exact hD1.2 k9 x hx
      · rw [List.getElem?_append_right (by omega)] at hx
        have := hr _ _ hx
        exact hA _ (by have := hS.1; omega)
  have hAr : ArrOfT s cA (.array ty) := fun N9 z9 => by
    obtain ⟨-, k9, hk9, cm9, hkk9⟩ := (hO 0 0 0).1
    exact ⟨(fun q hq => by cases hq), k9, hk9, cm9, hkk9⟩
  have hK2 : va_K D cl (tys ++ [(cA, .array ty)]) s := ⟨hK.1, fun k9 x hx => by
    by_cases hl : k9 < tys.length
    · rw [List.getElem?_append_left hl] at hx
      exact hK.2 k9 x hx
    · rw [List.getElem?_append_right (by omega)] at hx
      have h0 : k9 - tys.length < 1 := (List.getElem?_eq_some_iff.mp hx).1
      rw [show k9 - tys.length = 0 by omega] at hx
      cases hx
      exact ⟨hAr, fA⟩⟩
  obtain ⟨t, a1, b1⟩ := kk H.size (fun i => H.size + 1 + i) cA F.heap (fun i j _ _ h => by have h9 : H.size + 1 + i = H.size + 1 + j := h; omega) hnl hK2 (by rw [← vr_rows hnm]; exact vr_lay hP2) (by rw [← vr_rows hnm]; exact vr_layD hD2) ⟨by rw [f1]; have := hS.1; omega, fun x h1 h2 => (hold x (Nat.lt_of_lt_of_le h1 hS.1)).trans (hS.2.1 x h1 h2), hS.2.2⟩ F rfl X'
  refine ⟨t, step t ?_, b1⟩
  have e : T.heap.size = H.size := by rw [hT]
  rw [e]
  exact a1
end VGM
/-! ===== END ===== -/

/-! ===== BEGIN printed: names, fields, word lists, decode rows ===== -/
def RX0 : String := "DueWheels$Going"
def TX0 : u_T := fun k => match k with
  | _ => ("DueWheels$Going", "line", "LDueWheels$Line;", true)
def tyX0 : Nat → FieldType := fun k => match k with
  | _ => .object "DueWheels$Line"
abbrev wsX00 : List Cond := u_ws RX0 TX0 1
theorem nmX0 : ∀ a, a < 1 → ∀ b, b < 1 → a ≠ b → (TX0 a).2.1 ≠ (TX0 b).2.1 := by decide +kernel
theorem tyX0_ok : ∀ k, k < 1 → parseFieldDescriptor (TX0 k).2.2.1 = some (tyX0 k) := by decide +kernel
abbrev cX0_init : ByteArray := prog_2_method_1_code
def yX0_init : MethodName := ⟨RX0, "<init>", "()V"⟩
abbrev cX0_goOn : ByteArray := prog_2_method_2_code
def yX0_goOn : MethodName := ⟨RX0, "goOn", "(LDueWheels$State;J)V"⟩
abbrev cX0_passTick : ByteArray := prog_2_method_3_code
def yX0_passTick : MethodName := ⟨RX0, "passTick", "(LDueWheels$State;J)Z"⟩
abbrev cX0_moveTime : ByteArray := prog_2_method_4_code
def yX0_moveTime : MethodName := ⟨RX0, "moveTime", "(LDueWheels$State;J)V"⟩
abbrev cX0_findGoers : ByteArray := prog_2_method_5_code
def yX0_findGoers : MethodName := ⟨RX0, "findGoers", "(LDueWheels$State;J)V"⟩
abbrev cX0_isFast : ByteArray := prog_2_method_6_code
def yX0_isFast : MethodName := ⟨RX0, "isFast", "(LDueWheels$State;J)Z"⟩
abbrev cX0_isLooseFrom : ByteArray := prog_2_method_7_code
def yX0_isLooseFrom : MethodName := ⟨RX0, "isLooseFrom", "(LDueWheels$State;IJ)Z"⟩
abbrev cX0_rankOf : ByteArray := prog_2_method_8_code
def yX0_rankOf : MethodName := ⟨RX0, "rankOf", "(J)J"⟩
abbrev cX0_letGo : ByteArray := prog_2_method_9_code
def yX0_letGo : MethodName := ⟨RX0, "letGo", "(LDueWheels$State;I)V"⟩
abbrev cX0_goesAgain : ByteArray := prog_2_method_10_code
def yX0_goesAgain : MethodName := ⟨RX0, "goesAgain", "(LDueWheels$State;I)Z"⟩
abbrev cX0_setAgain : ByteArray := prog_2_method_11_code
def yX0_setAgain : MethodName := ⟨RX0, "setAgain", "(LDueWheels$State;I)V"⟩
def RX1 : String := "DueWheels$Kept"
def TX1 : u_T := fun k => match k with
  | 0 => ("DueWheels$Kept", "ring", "[LDueWheels$State;", true)
  | 1 => ("DueWheels$Kept", "latest", "I", false)
  | _ => ("DueWheels$Kept", "size", "I", false)
def tyX1 : Nat → FieldType := fun k => match k with
  | 0 => .array (.object "DueWheels$State")
  | 1 => .int
  | _ => .int
abbrev wsX10 : List Cond := u_ws RX1 TX1 3
theorem nmX1 : ∀ a, a < 3 → ∀ b, b < 3 → a ≠ b → (TX1 a).2.1 ≠ (TX1 b).2.1 := by decide +kernel
theorem tyX1_ok : ∀ k, k < 3 → parseFieldDescriptor (TX1 k).2.2.1 = some (tyX1 k) := by decide +kernel
abbrev cX1_init : ByteArray := prog_3_method_1_code
def yX1_init : MethodName := ⟨RX1, "<init>", "()V"⟩
abbrev cX1_keep : ByteArray := prog_3_method_2_code
def yX1_keep : MethodName := ⟨RX1, "keep", "(LDueWheels$State;)V"⟩
abbrev cX1_takeBack : ByteArray := prog_3_method_3_code
def yX1_takeBack : MethodName := ⟨RX1, "takeBack", "(LDueWheels$State;)LDueWheels$State;"⟩
def RX2 : String := "DueWheels$Line"
def TX2 : u_T := fun k => match k with
  | 0 => ("DueWheels$Line", "size", "I", false)
  | 1 => ("DueWheels$Line", "dues", "[I", true)
  | 2 => ("DueWheels$Line", "firstKeys", "[J", true)
  | _ => ("DueWheels$Line", "secondKeys", "[J", true)
def tyX2 : Nat → FieldType := fun k => match k with
  | 0 => .int
  | 1 => .array .int
  | 2 => .array .long
  | _ => .array .long
abbrev wsX20 : List Cond := u_ws RX2 TX2 4
theorem nmX2 : ∀ a, a < 4 → ∀ b, b < 4 → a ≠ b → (TX2 a).2.1 ≠ (TX2 b).2.1 := by decide +kernel
theorem tyX2_ok : ∀ k, k < 4 → parseFieldDescriptor (TX2 k).2.2.1 = some (tyX2 k) := by decide +kernel
abbrev cX2_init : ByteArray := prog_4_method_1_code
def yX2_init : MethodName := ⟨RX2, "<init>", "()V"⟩
abbrev cX2_add : ByteArray := prog_4_method_2_code
def yX2_add : MethodName := ⟨RX2, "add", "(IJJ)V"⟩
abbrev cX2_isAhead : ByteArray := prog_4_method_3_code
def yX2_isAhead : MethodName := ⟨RX2, "isAhead", "(JJI)Z"⟩
def RX3 : String := "DueWheels$Settling"
def TX3 : u_T := fun k => match k with
  | 0 => ("DueWheels$Settling", "line", "LDueWheels$Line;", true)
  | 1 => ("DueWheels$Settling", "settled", "[J", true)
  | 2 => ("DueWheels$Settling", "fast", "[J", true)
  | _ => ("DueWheels$Settling", "fastSize", "I", false)
def tyX3 : Nat → FieldType := fun k => match k with
  | 0 => .object "DueWheels$Line"
  | 1 => .array .long
  | 2 => .array .long
  | _ => .int
abbrev wsX30 : List Cond := u_ws RX3 TX3 4
theorem nmX3 : ∀ a, a < 4 → ∀ b, b < 4 → a ≠ b → (TX3 a).2.1 ≠ (TX3 b).2.1 := by decide +kernel
theorem tyX3_ok : ∀ k, k < 4 → parseFieldDescriptor (TX3 k).2.2.1 = some (tyX3 k) := by decide +kernel
abbrev cX3_init : ByteArray := prog_5_method_1_code
def yX3_init : MethodName := ⟨RX3, "<init>", "()V"⟩
abbrev cX3_plan : ByteArray := prog_5_method_2_code
def yX3_plan : MethodName := ⟨RX3, "plan", "(LDueWheels$State;)I"⟩
abbrev cX3_carryOut : ByteArray := prog_5_method_3_code
def yX3_carryOut : MethodName := ⟨RX3, "carryOut", "(LDueWheels$State;)I"⟩
abbrev cX3_findFast : ByteArray := prog_5_method_4_code
def yX3_findFast : MethodName := ⟨RX3, "findFast", "(LDueWheels$State;)V"⟩
abbrev cX3_addFast : ByteArray := prog_5_method_5_code
def yX3_addFast : MethodName := ⟨RX3, "addFast", "(J)V"⟩
abbrev cX3_findLoose : ByteArray := prog_5_method_6_code
def yX3_findLoose : MethodName := ⟨RX3, "findLoose", "(LDueWheels$State;)V"⟩
abbrev cX3_leastFast : ByteArray := prog_5_method_7_code
def yX3_leastFast : MethodName := ⟨RX3, "leastFast", "(JJ)J"⟩
def RX4 : String := "DueWheels$State"
def TX4 : u_T := fun k => match k with
  | 0 => ("DueWheels$State", "time", "J", false)
  | 1 => ("DueWheels$State", "places", "J", false)
  | 2 => ("DueWheels$State", "goings", "J", false)
  | 3 => ("DueWheels$State", "moves", "J", false)
  | 4 => ("DueWheels$State", "end", "I", false)
  | 5 => ("DueWheels$State", "rowSize", "I", false)
  | 6 => ("DueWheels$State", "dues", "[[J", true)
  | _ => ("DueWheels$State", "row", "[[J", true)
def tyX4 : Nat → FieldType := fun k => match k with
  | 0 => .long
  | 1 => .long
  | 2 => .long
  | 3 => .long
  | 4 => .int
  | 5 => .int
  | 6 => .array (.array .long)
  | _ => .array (.array .long)
abbrev wsX40 : List Cond := u_ws RX4 TX4 8
theorem nmX4 : ∀ a, a < 8 → ∀ b, b < 8 → a ≠ b → (TX4 a).2.1 ≠ (TX4 b).2.1 := by decide +kernel
theorem tyX4_ok : ∀ k, k < 8 → parseFieldDescriptor (TX4 k).2.2.1 = some (tyX4 k) := by decide +kernel
abbrev cX4_init : ByteArray := prog_6_method_1_code
def yX4_init : MethodName := ⟨RX4, "<init>", "()V"⟩
abbrev cX4_copyOf : ByteArray := prog_6_method_2_code
def yX4_copyOf : MethodName := ⟨RX4, "copyOf", "(LDueWheels$State;)V"⟩
abbrev cX4_isDue : ByteArray := prog_6_method_3_code
def yX4_isDue : MethodName := ⟨RX4, "isDue", "(I)Z"⟩
abbrev cX4_leastFree : ByteArray := prog_6_method_4_code
def yX4_leastFree : MethodName := ⟨RX4, "leastFree", "()I"⟩
abbrev cX4_isFull : ByteArray := prog_6_method_5_code
def yX4_isFull : MethodName := ⟨RX4, "isFull", "()Z"⟩
abbrev cX4_open : ByteArray := prog_6_method_6_code
def yX4_open : MethodName := ⟨RX4, "open", "(II)I"⟩
abbrev cX4_close : ByteArray := prog_6_method_7_code
def yX4_close : MethodName := ⟨RX4, "close", "(I)V"⟩
abbrev cX4_clear : ByteArray := prog_6_method_8_code
def yX4_clear : MethodName := ⟨RX4, "clear", "(I)V"⟩
abbrev cX4_setPlace : ByteArray := prog_6_method_9_code
def yX4_setPlace : MethodName := ⟨RX4, "setPlace", "(I)V"⟩
abbrev cX4_setTick : ByteArray := prog_6_method_10_code
def yX4_setTick : MethodName := ⟨RX4, "setTick", "(IJ)V"⟩
abbrev cX4_isBehind : ByteArray := prog_6_method_11_code
def yX4_isBehind : MethodName := ⟨RX4, "isBehind", "(II)Z"⟩
abbrev cX4_tellDropped : ByteArray := prog_6_method_12_code
def yX4_tellDropped : MethodName := ⟨RX4, "tellDropped", "(I)V"⟩
abbrev cX4_tellGone : ByteArray := prog_6_method_13_code
def yX4_tellGone : MethodName := ⟨RX4, "tellGone", "(I)V"⟩
abbrev cX4_leastTick : ByteArray := prog_6_method_14_code
def yX4_leastTick : MethodName := ⟨RX4, "leastTick", "()J"⟩
abbrev cX4_liesIn : ByteArray := prog_6_method_15_code
def yX4_liesIn : MethodName := ⟨RX4, "liesIn", "(III)Z"⟩
abbrev cX4_duesWith : ByteArray := prog_6_method_16_code
def yX4_duesWith : MethodName := ⟨RX4, "duesWith", "(I)J"⟩
def RX5 : String := "DueWheels$Wheels"
def TX5 : u_T := fun k => match k with
  | _ => ("", "", "", false)
def tyX5 : Nat → FieldType := fun k => match k with
  | _ => .int
abbrev wsX50 : List Cond := u_ws RX5 TX5 0
theorem nmX5 : ∀ a, a < 0 → ∀ b, b < 0 → a ≠ b → (TX5 a).2.1 ≠ (TX5 b).2.1 := by decide +kernel
theorem tyX5_ok : ∀ k, k < 0 → parseFieldDescriptor (TX5 k).2.2.1 = some (tyX5 k) := by decide +kernel
abbrev cX5_wheelOf : ByteArray := prog_7_method_2_code
def yX5_wheelOf : MethodName := ⟨RX5, "wheelOf", "(JJ)I"⟩
abbrev cX5_slotOf : ByteArray := prog_7_method_3_code
def yX5_slotOf : MethodName := ⟨RX5, "slotOf", "(IJ)I"⟩
abbrev cX5_isSlot : ByteArray := prog_7_method_4_code
def yX5_isSlot : MethodName := ⟨RX5, "isSlot", "(II)Z"⟩
abbrev cX5_movesDown : ByteArray := prog_7_method_5_code
def yX5_movesDown : MethodName := ⟨RX5, "movesDown", "(JJJ)I"⟩
def RX6 : String := "DueWheels"
def TX6 : u_T := fun k => match k with
  | 0 => ("DueWheels", "kept", "LDueWheels$Kept;", true)
  | 1 => ("DueWheels", "going", "LDueWheels$Going;", true)
  | 2 => ("DueWheels", "settling", "LDueWheels$Settling;", true)
  | _ => ("DueWheels", "state", "LDueWheels$State;", false)
def tyX6 : Nat → FieldType := fun k => match k with
  | 0 => .object "DueWheels$Kept"
  | 1 => .object "DueWheels$Going"
  | 2 => .object "DueWheels$Settling"
  | _ => .object "DueWheels$State"
abbrev wsX60 : List Cond := u_ws RX6 TX6 4
theorem nmX6 : ∀ a, a < 4 → ∀ b, b < 4 → a ≠ b → (TX6 a).2.1 ≠ (TX6 b).2.1 := by decide +kernel
theorem tyX6_ok : ∀ k, k < 4 → parseFieldDescriptor (TX6 k).2.2.1 = some (tyX6 k) := by decide +kernel
abbrev cX6_init : ByteArray := prog_1_method_1_code
def yX6_init : MethodName := ⟨RX6, "<init>", "()V"⟩
abbrev cX6_once : ByteArray := prog_1_method_2_code
def yX6_once : MethodName := ⟨RX6, "once", "(JI)J"⟩
abbrev cX6_often : ByteArray := prog_1_method_3_code
def yX6_often : MethodName := ⟨RX6, "often", "(JJII)J"⟩
abbrev cX6_loose : ByteArray := prog_1_method_4_code
def yX6_loose : MethodName := ⟨RX6, "loose", "(JJI)J"⟩
abbrev cX6_chained : ByteArray := prog_1_method_5_code
def yX6_chained : MethodName := ⟨RX6, "chained", "(IJJI)J"⟩
abbrev cX6_resting : ByteArray := prog_1_method_6_code
def yX6_resting : MethodName := ⟨RX6, "resting", "(JJII)J"⟩
abbrev cX6_drop : ByteArray := prog_1_method_7_code
def yX6_drop : MethodName := ⟨RX6, "drop", "(I)J"⟩
abbrev cX6_shift : ByteArray := prog_1_method_8_code
def yX6_shift : MethodName := ⟨RX6, "shift", "(IJ)J"⟩
abbrev cX6_chain : ByteArray := prog_1_method_9_code
def yX6_chain : MethodName := ⟨RX6, "chain", "(II)J"⟩
abbrev cX6_rest : ByteArray := prog_1_method_10_code
def yX6_rest : MethodName := ⟨RX6, "rest", "(I)J"⟩
abbrev cX6_wake : ByteArray := prog_1_method_11_code
def yX6_wake : MethodName := ⟨RX6, "wake", "(I)J"⟩
abbrev cX6_about : ByteArray := prog_1_method_12_code
def yX6_about : MethodName := ⟨RX6, "about", "(II)J"⟩
abbrev cX6_isOf : ByteArray := prog_1_method_13_code
def yX6_isOf : MethodName := ⟨RX6, "isOf", "(II)J"⟩
abbrev cX6_go : ByteArray := prog_1_method_14_code
def yX6_go : MethodName := ⟨RX6, "go", "(J)J"⟩
abbrev cX6_went : ByteArray := prog_1_method_15_code
def yX6_went : MethodName := ⟨RX6, "went", "(II)J"⟩
abbrev cX6_next : ByteArray := prog_1_method_16_code
def yX6_next : MethodName := ⟨RX6, "next", "()J"⟩
abbrev cX6_fewest : ByteArray := prog_1_method_17_code
def yX6_fewest : MethodName := ⟨RX6, "fewest", "()J"⟩
abbrev cX6_settle : ByteArray := prog_1_method_18_code
def yX6_settle : MethodName := ⟨RX6, "settle", "()J"⟩
abbrev cX6_lies : ByteArray := prog_1_method_19_code
def yX6_lies : MethodName := ⟨RX6, "lies", "(II)J"⟩
abbrev cX6_bits : ByteArray := prog_1_method_20_code
def yX6_bits : MethodName := ⟨RX6, "bits", "(I)J"⟩
abbrev cX6_many : ByteArray := prog_1_method_21_code
def yX6_many : MethodName := ⟨RX6, "many", "(II)J"⟩
abbrev cX6_in : ByteArray := prog_1_method_22_code
def yX6_in : MethodName := ⟨RX6, "in", "(III)J"⟩
abbrev cX6_now : ByteArray := prog_1_method_23_code
def yX6_now : MethodName := ⟨RX6, "now", "()J"⟩
abbrev cX6_undo : ByteArray := prog_1_method_24_code
def yX6_undo : MethodName := ⟨RX6, "undo", "()J"⟩
abbrev cX6_count : ByteArray := prog_1_method_25_code
def yX6_count : MethodName := ⟨RX6, "count", "(I)J"⟩
abbrev cX6_isTickAhead : ByteArray := prog_1_method_26_code
def yX6_isTickAhead : MethodName := ⟨RX6, "isTickAhead", "(J)Z"⟩
abbrev cX6_isSpan : ByteArray := prog_1_method_27_code
def yX6_isSpan : MethodName := ⟨RX6, "isSpan", "(J)Z"⟩
abbrev cX6_openRepeated : ByteArray := prog_1_method_28_code
def yX6_openRepeated : MethodName := ⟨RX6, "openRepeated", "(IJJII)J"⟩
def RX7 : String := "DueWheelsModel"
def TX7 : u_T := fun k => match k with
  | 0 => ("DueWheelsModel", "s", "[J", true)
  | 1 => ("DueWheelsModel", "before", "[J", true)
  | 2 => ("DueWheelsModel", "kept", "I", false)
  | 3 => ("DueWheelsModel", "goers", "[I", true)
  | 4 => ("DueWheelsModel", "goerCount", "I", false)
  | 5 => ("DueWheelsModel", "loose", "[I", true)
  | 6 => ("DueWheelsModel", "ticks", "[J", true)
  | 7 => ("DueWheelsModel", "looseCount", "I", false)
  | _ => ("DueWheelsModel", "isFast", "[Z", true)
def tyX7 : Nat → FieldType := fun k => match k with
  | 0 => .array .long
  | 1 => .array .long
  | 2 => .int
  | 3 => .array .int
  | 4 => .int
  | 5 => .array .int
  | 6 => .array .long
  | 7 => .int
  | _ => .array .boolean
abbrev wsX70 : List Cond := u_ws RX7 TX7 9
theorem nmX7 : ∀ a, a < 9 → ∀ b, b < 9 → a ≠ b → (TX7 a).2.1 ≠ (TX7 b).2.1 := by decide +kernel
theorem tyX7_ok : ∀ k, k < 9 → parseFieldDescriptor (TX7 k).2.2.1 = some (tyX7 k) := by decide +kernel
abbrev cX7_init : ByteArray := prog_9_method_1_code
def yX7_init : MethodName := ⟨RX7, "<init>", "()V"⟩
abbrev cX7_isIn : ByteArray := prog_9_method_2_code
def yX7_isIn : MethodName := ⟨RX7, "isIn", "(JJJ)Z"⟩
abbrev cX7_get : ByteArray := prog_9_method_3_code
def yX7_get : MethodName := ⟨RX7, "get", "(II)J"⟩
abbrev cX7_put : ByteArray := prog_9_method_4_code
def yX7_put : MethodName := ⟨RX7, "put", "(IIJ)V"⟩
abbrev cX7_isDue : ByteArray := prog_9_method_5_code
def yX7_isDue : MethodName := ⟨RX7, "isDue", "(I)Z"⟩
abbrev cX7_hasTick : ByteArray := prog_9_method_6_code
def yX7_hasTick : MethodName := ⟨RX7, "hasTick", "(I)Z"⟩
abbrev cX7_waits : ByteArray := prog_9_method_7_code
def yX7_waits : MethodName := ⟨RX7, "waits", "(I)Z"⟩
abbrev cX7_rests : ByteArray := prog_9_method_8_code
def yX7_rests : MethodName := ⟨RX7, "rests", "(I)Z"⟩
abbrev cX7_keep : ByteArray := prog_9_method_9_code
def yX7_keep : MethodName := ⟨RX7, "keep", "()V"⟩
abbrev cX7_undo : ByteArray := prog_9_method_10_code
def yX7_undo : MethodName := ⟨RX7, "undo", "()J"⟩
abbrev cX7_freeOne : ByteArray := prog_9_method_11_code
def yX7_freeOne : MethodName := ⟨RX7, "freeOne", "()I"⟩
abbrev cX7_line : ByteArray := prog_9_method_12_code
def yX7_line : MethodName := ⟨RX7, "line", "(I)V"⟩
abbrev cX7_tick : ByteArray := prog_9_method_13_code
def yX7_tick : MethodName := ⟨RX7, "tick", "(IJ)V"⟩
abbrev cX7_set : ByteArray := prog_9_method_14_code
def yX7_set : MethodName := ⟨RX7, "set", "(II)I"⟩
abbrev cX7_isTick : ByteArray := prog_9_method_15_code
def yX7_isTick : MethodName := ⟨RX7, "isTick", "(J)Z"⟩
abbrev cX7_once : ByteArray := prog_9_method_16_code
def yX7_once : MethodName := ⟨RX7, "once", "(JI)J"⟩
abbrev cX7_repeated : ByteArray := prog_9_method_17_code
def yX7_repeated : MethodName := ⟨RX7, "repeated", "(IJJII)J"⟩
abbrev cX7_often : ByteArray := prog_9_method_18_code
def yX7_often : MethodName := ⟨RX7, "often", "(JJII)J"⟩
abbrev cX7_resting : ByteArray := prog_9_method_19_code
def yX7_resting : MethodName := ⟨RX7, "resting", "(JJII)J"⟩
abbrev cX7_loose : ByteArray := prog_9_method_20_code
def yX7_loose : MethodName := ⟨RX7, "loose", "(JJI)J"⟩
abbrev cX7_chained : ByteArray := prog_9_method_21_code
def yX7_chained : MethodName := ⟨RX7, "chained", "(IJJI)J"⟩
abbrev cX7_drop : ByteArray := prog_9_method_22_code
def yX7_drop : MethodName := ⟨RX7, "drop", "(I)J"⟩
abbrev cX7_shift : ByteArray := prog_9_method_23_code
def yX7_shift : MethodName := ⟨RX7, "shift", "(IJ)J"⟩
abbrev cX7_isBehind : ByteArray := prog_9_method_24_code
def yX7_isBehind : MethodName := ⟨RX7, "isBehind", "(II)Z"⟩
abbrev cX7_chain : ByteArray := prog_9_method_25_code
def yX7_chain : MethodName := ⟨RX7, "chain", "(II)J"⟩
abbrev cX7_rest : ByteArray := prog_9_method_26_code
def yX7_rest : MethodName := ⟨RX7, "rest", "(I)J"⟩
abbrev cX7_wake : ByteArray := prog_9_method_27_code
def yX7_wake : MethodName := ⟨RX7, "wake", "(I)J"⟩
abbrev cX7_about : ByteArray := prog_9_method_28_code
def yX7_about : MethodName := ⟨RX7, "about", "(II)J"⟩
abbrev cX7_isOf : ByteArray := prog_9_method_29_code
def yX7_isOf : MethodName := ⟨RX7, "isOf", "(II)J"⟩
abbrev cX7_turnOf : ByteArray := prog_9_method_30_code
def yX7_turnOf : MethodName := ⟨RX7, "turnOf", "(JI)J"⟩
abbrev cX7_wheelOf : ByteArray := prog_9_method_31_code
def yX7_wheelOf : MethodName := ⟨RX7, "wheelOf", "(J)I"⟩
abbrev cX7_slotOf : ByteArray := prog_9_method_32_code
def yX7_slotOf : MethodName := ⟨RX7, "slotOf", "(JI)I"⟩
abbrev cX7_movesOf : ByteArray := prog_9_method_33_code
def yX7_movesOf : MethodName := ⟨RX7, "movesOf", "(JJJ)I"⟩
abbrev cX7_pass : ByteArray := prog_9_method_34_code
def yX7_pass : MethodName := ⟨RX7, "pass", "(J)V"⟩
abbrev cX7_nextTick : ByteArray := prog_9_method_35_code
def yX7_nextTick : MethodName := ⟨RX7, "nextTick", "()J"⟩
abbrev cX7_find : ByteArray := prog_9_method_36_code
def yX7_find : MethodName := ⟨RX7, "find", "(IJZ)V"⟩
abbrev cX7_findAll : ByteArray := prog_9_method_37_code
def yX7_findAll : MethodName := ⟨RX7, "findAll", "(J)V"⟩
abbrev cX7_tell : ByteArray := prog_9_method_38_code
def yX7_tell : MethodName := ⟨RX7, "tell", "(IJ)V"⟩
abbrev cX7_goesOn : ByteArray := prog_9_method_39_code
def yX7_goesOn : MethodName := ⟨RX7, "goesOn", "(IJ)V"⟩
abbrev cX7_goAll : ByteArray := prog_9_method_40_code
def yX7_goAll : MethodName := ⟨RX7, "goAll", "(J)V"⟩
abbrev cX7_go : ByteArray := prog_9_method_41_code
def yX7_go : MethodName := ⟨RX7, "go", "(J)J"⟩
abbrev cX7_went : ByteArray := prog_9_method_42_code
def yX7_went : MethodName := ⟨RX7, "went", "(II)J"⟩
abbrev cX7_next : ByteArray := prog_9_method_43_code
def yX7_next : MethodName := ⟨RX7, "next", "()J"⟩
abbrev cX7_gather : ByteArray := prog_9_method_44_code
def yX7_gather : MethodName := ⟨RX7, "gather", "()V"⟩
abbrev cX7_isAhead : ByteArray := prog_9_method_45_code
def yX7_isAhead : MethodName := ⟨RX7, "isAhead", "(II)Z"⟩
abbrev cX7_fastIn : ByteArray := prog_9_method_46_code
def yX7_fastIn : MethodName := ⟨RX7, "fastIn", "(I)J"⟩
abbrev cX7_settled : ByteArray := prog_9_method_47_code
def yX7_settled : MethodName := ⟨RX7, "settled", "()I"⟩
abbrev cX7_fewest : ByteArray := prog_9_method_48_code
def yX7_fewest : MethodName := ⟨RX7, "fewest", "()J"⟩
abbrev cX7_settle : ByteArray := prog_9_method_49_code
def yX7_settle : MethodName := ⟨RX7, "settle", "()J"⟩
abbrev cX7_lies : ByteArray := prog_9_method_50_code
def yX7_lies : MethodName := ⟨RX7, "lies", "(II)J"⟩
abbrev cX7_liesIn : ByteArray := prog_9_method_51_code
def yX7_liesIn : MethodName := ⟨RX7, "liesIn", "(III)Z"⟩
abbrev cX7_bits : ByteArray := prog_9_method_52_code
def yX7_bits : MethodName := ⟨RX7, "bits", "(I)J"⟩
abbrev cX7_isSlot : ByteArray := prog_9_method_53_code
def yX7_isSlot : MethodName := ⟨RX7, "isSlot", "(II)Z"⟩
abbrev cX7_many : ByteArray := prog_9_method_54_code
def yX7_many : MethodName := ⟨RX7, "many", "(II)J"⟩
abbrev cX7_in : ByteArray := prog_9_method_55_code
def yX7_in : MethodName := ⟨RX7, "in", "(III)J"⟩
abbrev cX7_now : ByteArray := prog_9_method_56_code
def yX7_now : MethodName := ⟨RX7, "now", "()J"⟩
abbrev cX7_manyOf : ByteArray := prog_9_method_57_code
def yX7_manyOf : MethodName := ⟨RX7, "manyOf", "(I)I"⟩
abbrev cX7_count : ByteArray := prog_9_method_58_code
def yX7_count : MethodName := ⟨RX7, "count", "(I)J"⟩
def RJ9 : String := "java/lang/Math"
def TJ9 : u_T := fun k => match k with
  | _ => ("", "", "", false)
def tyJ9 : Nat → FieldType := fun k => match k with
  | _ => .int
abbrev wsJ90 : List Cond := u_ws RJ9 TJ9 0
theorem nmJ9 : ∀ a, a < 0 → ∀ b, b < 0 → a ≠ b → (TJ9 a).2.1 ≠ (TJ9 b).2.1 := by decide +kernel
theorem tyJ9_ok : ∀ k, k < 0 → parseFieldDescriptor (TJ9 k).2.2.1 = some (tyJ9 k) := by decide +kernel
abbrev cJ9_max_f86c9 : ByteArray := prog_10_method_66_code
def yJ9_max_f86c9 : MethodName := ⟨RJ9, "max", "(JJ)J"⟩
abbrev cJ9_min_7cf53 : ByteArray := prog_10_method_69_code
def yJ9_min_7cf53 : MethodName := ⟨RJ9, "min", "(II)I"⟩
abbrev cJ9_min_f86c9 : ByteArray := prog_10_method_70_code
def yJ9_min_f86c9 : MethodName := ⟨RJ9, "min", "(JJ)J"⟩
def RJ10 : String := "java/lang/System"
def TJ10 : u_T := fun k => match k with
  | _ => ("", "", "", false)
def tyJ10 : Nat → FieldType := fun k => match k with
  | _ => .int
abbrev wsJ100 : List Cond := u_ws RJ10 TJ10 0
theorem nmJ10 : ∀ a, a < 0 → ∀ b, b < 0 → a ≠ b → (TJ10 a).2.1 ≠ (TJ10 b).2.1 := by decide +kernel
theorem tyJ10_ok : ∀ k, k < 0 → parseFieldDescriptor (TJ10 k).2.2.1 = some (tyJ10 k) := by decide +kernel
def RL : String := "DueWheelsLaw"
abbrev cL_law : ByteArray := code
def yL_law : MethodName := ⟨RL, "law", "([I)Z"⟩
def wsX2_init : List Cond := .code yX2_init cX2_init 1 none :: ([.methodLink RX2 3 objectInit, .instanceMethod objectInit, .code objectInit ⟨#[0xb1]⟩ 1 none, .arrayClass .int, .fieldLink RX2 9 "DueWheels$Line" "dues" "[I", .arrayClass .long, .fieldLink RX2 15 "DueWheels$Line" "firstKeys" "[J", .fieldLink RX2 19 "DueWheels$Line" "secondKeys" "[J"] ++ wsX20)
def wsX0_init : List Cond := .code yX0_init cX0_init 1 none :: ([.methodLink RX0 3 objectInit, .instanceMethod objectInit, .code objectInit ⟨#[0xb1]⟩ 1 none, .classLink RX0 9 RX2, .instantiable RX2 4, .initialized RX2, .fieldLink RX0 12 "DueWheels$Going" "line" "LDueWheels$Line;", .instanceMethod yX2_init, .code yX2_init cX2_init 1 none, .methodLink RX2 3 objectInit, .arrayClass .int, .fieldLink RX2 9 "DueWheels$Line" "dues" "[I", .arrayClass .long, .fieldLink RX2 15 "DueWheels$Line" "firstKeys" "[J", .fieldLink RX2 19 "DueWheels$Line" "secondKeys" "[J"] ++ wsX20 ++ wsX00)
def wsX4_leastTick : List Cond := .code yX4_leastTick cX4_leastTick 6 (some .long) :: ([.constantLong RX4 58 (1125899906842624), .fieldLink RX4 32 "DueWheels$State" "end" "I", .fieldLink RX4 11 "DueWheels$State" "dues" "[[J", .constantLong RX4 45 (-2000000005)] ++ wsX40)
def wsX5_wheelOf : List Cond := .code yX5_wheelOf cX5_wheelOf 6 (some .int) :: ([])
def wsX5_movesDown : List Cond := .code yX5_movesDown cX5_movesDown 12 (some .int) :: ([.methodLink RX5 11 yX5_wheelOf, .static yX5_wheelOf, .initialized RX5, .code yX5_wheelOf cX5_wheelOf 6 (some .int)])
def wsX0_moveTime : List Cond := .code yX0_moveTime cX0_moveTime 8 none :: ([.fieldLink RX0 52 "DueWheels$State" "time" "J", .fieldLink RX0 56 "DueWheels$State" "end" "I", .fieldLink RX0 59 "DueWheels$State" "dues" "[[J", .constantLong RX0 32 (-2000000005), .fieldLink RX0 68 "DueWheels$State" "moves" "J", .methodLink RX0 62 yX5_movesDown, .static yX5_movesDown, .initialized RX5, .code yX5_movesDown cX5_movesDown 12 (some .int), .methodLink RX5 11 yX5_wheelOf, .static yX5_wheelOf, .code yX5_wheelOf cX5_wheelOf 6 (some .int)] ++ wsX40)
def wsX0_isFast : List Cond := .code yX0_isFast cX0_isFast 5 (some .boolean) :: ([.fieldLink RX0 56 "DueWheels$State" "end" "I", .fieldLink RX0 59 "DueWheels$State" "dues" "[[J", .constantLong RX0 86 (2)] ++ wsX40)
def wsX0_isLooseFrom : List Cond := .code yX0_isLooseFrom cX0_isLooseFrom 5 (some .boolean) :: ([.fieldLink RX0 59 "DueWheels$State" "dues" "[[J", .constantLong RX0 86 (2)] ++ wsX40)
def wsX0_rankOf : List Cond := .code yX0_rankOf cX0_rankOf 3 (some .long) :: ([.constantLong RX0 86 (2), .constantLong RX0 88 (5)])
def wsX2_isAhead : List Cond := .code yX2_isAhead cX2_isAhead 6 (some .boolean) :: ([.fieldLink RX2 15 "DueWheels$Line" "firstKeys" "[J", .fieldLink RX2 19 "DueWheels$Line" "secondKeys" "[J"] ++ wsX20)
def wsX2_add : List Cond := .code yX2_add cX2_add 7 none :: ([.fieldLink RX2 22 "DueWheels$Line" "size" "I", .fieldLink RX2 9 "DueWheels$Line" "dues" "[I", .fieldLink RX2 15 "DueWheels$Line" "firstKeys" "[J", .fieldLink RX2 19 "DueWheels$Line" "secondKeys" "[J", .methodLink RX2 26 yX2_isAhead, .instanceMethod yX2_isAhead, .selects RX2 yX2_isAhead yX2_isAhead, .initialized RX2, .code yX2_isAhead cX2_isAhead 6 (some .boolean)] ++ wsX20)
def wsX0_findGoers_r1 : List Cond := [Cond.fieldLink RX0 12 "DueWheels$Going" "line" "LDueWheels$Line;", Cond.fieldLink RX0 41 "DueWheels$Line" "size" "I", Cond.fieldLink RX0 56 "DueWheels$State" "end" "I", Cond.fieldLink RX0 59 "DueWheels$State" "dues" "[[J", Cond.methodLink RX0 71 yX0_isFast, Cond.instanceMethod yX0_isFast, Cond.selects RX0 yX0_isFast yX0_isFast, Cond.initialized RX0, Cond.code yX0_isFast cX0_isFast 5 (some .boolean), Cond.constantLong RX0 86 (2), Cond.methodLink RX0 74 yX0_isLooseFrom, Cond.instanceMethod yX0_isLooseFrom, Cond.selects RX0 yX0_isLooseFrom yX0_isLooseFrom, Cond.code yX0_isLooseFrom cX0_isLooseFrom 5 (some .boolean), Cond.methodLink RX0 78 yX0_rankOf, Cond.instanceMethod yX0_rankOf, Cond.selects RX0 yX0_rankOf yX0_rankOf, Cond.code yX0_rankOf cX0_rankOf 3 (some .long), Cond.constantLong RX0 88 (5), Cond.methodLink RX0 82 yX2_add, Cond.instanceMethod yX2_add, Cond.selects RX2 yX2_add yX2_add, Cond.initialized RX2, Cond.code yX2_add cX2_add 7 none]
def wsX0_findGoers_r2 : List Cond := [Cond.fieldLink RX2 22 "DueWheels$Line" "size" "I", Cond.fieldLink RX2 9 "DueWheels$Line" "dues" "[I", Cond.fieldLink RX2 15 "DueWheels$Line" "firstKeys" "[J", Cond.fieldLink RX2 19 "DueWheels$Line" "secondKeys" "[J", Cond.methodLink RX2 26 yX2_isAhead, Cond.instanceMethod yX2_isAhead, Cond.selects RX2 yX2_isAhead yX2_isAhead, Cond.code yX2_isAhead cX2_isAhead 6 (some .boolean)]
def wsX0_findGoers : List Cond := .code yX0_findGoers cX0_findGoers 6 none :: ((wsX0_findGoers_r1 ++ wsX0_findGoers_r2) ++ wsX00 ++ wsX20 ++ wsX40)
def wsX4_setTick : List Cond := .code yX4_setTick cX4_setTick 4 none :: ([.fieldLink RX4 11 "DueWheels$State" "dues" "[[J", .constantLong RX4 58 (1125899906842624), .methodLink RX4 60 Lib.MathLoose.min_long.x, .static Lib.MathLoose.min_long.x, .initialized "java/lang/Math", .code Lib.MathLoose.min_long.x Lib.MathLoose.min_long.code 4 (some .long)] ++ wsX40)
def wsX4_tellGone : List Cond := .code yX4_tellGone cX4_tellGone 3 none :: ([.fieldLink RX4 32 "DueWheels$State" "end" "I", .fieldLink RX4 11 "DueWheels$State" "dues" "[[J", .constantLong RX4 45 (-2000000005), .fieldLink RX4 19 "DueWheels$State" "time" "J", .methodLink RX4 69 yX4_setTick, .instanceMethod yX4_setTick, .selects RX4 yX4_setTick yX4_setTick, .initialized RX4, .code yX4_setTick cX4_setTick 4 none, .constantLong RX4 58 (1125899906842624), .methodLink RX4 60 Lib.MathLoose.min_long.x, .static Lib.MathLoose.min_long.x, .initialized "java/lang/Math", .code Lib.MathLoose.min_long.x Lib.MathLoose.min_long.code 4 (some .long)] ++ wsX40)
def wsX0_goesAgain : List Cond := .code yX0_goesAgain cX0_goesAgain 5 (some .boolean) :: ([.fieldLink RX0 59 "DueWheels$State" "dues" "[[J", .constantLong RX0 32 (-2000000005), .fieldLink RX0 52 "DueWheels$State" "time" "J", .constantLong RX0 110 (1125899906842624)] ++ wsX40)
def wsX0_setAgain : List Cond := .code yX0_setAgain cX0_setAgain 5 none :: ([.fieldLink RX0 59 "DueWheels$State" "dues" "[[J", .fieldLink RX0 52 "DueWheels$State" "time" "J", .methodLink RX0 112 yX4_setTick, .instanceMethod yX4_setTick, .selects RX4 yX4_setTick yX4_setTick, .initialized RX4, .code yX4_setTick cX4_setTick 4 none, .fieldLink RX4 11 "DueWheels$State" "dues" "[[J", .constantLong RX4 58 (1125899906842624), .methodLink RX4 60 Lib.MathLoose.min_long.x, .static Lib.MathLoose.min_long.x, .initialized "java/lang/Math", .code Lib.MathLoose.min_long.x Lib.MathLoose.min_long.code 4 (some .long)] ++ wsX40)
def wsX4_clear : List Cond := .code yX4_clear cX4_clear 3 none :: ([.fieldLink RX4 11 "DueWheels$State" "dues" "[[J", .constantLong RX4 45 (-2000000005)] ++ wsX40)
def wsX4_close : List Cond := .code yX4_close cX4_close 3 none :: ([.fieldLink RX4 32 "DueWheels$State" "end" "I", .fieldLink RX4 11 "DueWheels$State" "dues" "[[J", .constantLong RX4 45 (-2000000005), .methodLink RX4 51 yX4_clear, .instanceMethod yX4_clear, .selects RX4 yX4_clear yX4_clear, .initialized RX4, .code yX4_clear cX4_clear 3 none] ++ wsX40)
def wsX0_letGo_r1 : List Cond := [Cond.fieldLink RX0 18 "DueWheels$State" "rowSize" "I", Cond.fieldLink RX0 90 "DueWheels$State" "row" "[[J", Cond.fieldLink RX0 52 "DueWheels$State" "time" "J", Cond.fieldLink RX0 59 "DueWheels$State" "dues" "[[J", Cond.fieldLink RX0 93 "DueWheels$State" "goings" "J", Cond.methodLink RX0 96 yX4_tellGone, Cond.instanceMethod yX4_tellGone, Cond.selects RX4 yX4_tellGone yX4_tellGone, Cond.initialized RX4, Cond.code yX4_tellGone cX4_tellGone 3 none, Cond.fieldLink RX4 32 "DueWheels$State" "end" "I", Cond.fieldLink RX4 11 "DueWheels$State" "dues" "[[J", Cond.constantLong RX4 45 (-2000000005), Cond.fieldLink RX4 19 "DueWheels$State" "time" "J", Cond.methodLink RX4 69 yX4_setTick, Cond.instanceMethod yX4_setTick, Cond.selects RX4 yX4_setTick yX4_setTick, Cond.code yX4_setTick cX4_setTick 4 none, Cond.constantLong RX4 58 (1125899906842624), Cond.methodLink RX4 60 Lib.MathLoose.min_long.x, Cond.static Lib.MathLoose.min_long.x, Cond.initialized "java/lang/Math", Cond.code Lib.MathLoose.min_long.x Lib.MathLoose.min_long.code 4 (some .long), Cond.methodLink RX0 100 yX0_goesAgain]
def wsX0_letGo_r2 : List Cond := [Cond.instanceMethod yX0_goesAgain, Cond.selects RX0 yX0_goesAgain yX0_goesAgain, Cond.initialized RX0, Cond.code yX0_goesAgain cX0_goesAgain 5 (some .boolean), Cond.constantLong RX0 32 (-2000000005), Cond.constantLong RX0 110 (1125899906842624), Cond.methodLink RX0 104 yX0_setAgain, Cond.instanceMethod yX0_setAgain, Cond.selects RX0 yX0_setAgain yX0_setAgain, Cond.code yX0_setAgain cX0_setAgain 5 none, Cond.methodLink RX0 112 yX4_setTick, Cond.methodLink RX0 107 yX4_close, Cond.instanceMethod yX4_close, Cond.selects RX4 yX4_close yX4_close, Cond.code yX4_close cX4_close 3 none, Cond.methodLink RX4 51 yX4_clear, Cond.instanceMethod yX4_clear, Cond.selects RX4 yX4_clear yX4_clear, Cond.code yX4_clear cX4_clear 3 none]
def wsX0_letGo : List Cond := .code yX0_letGo cX0_letGo 3 none :: ((wsX0_letGo_r1 ++ wsX0_letGo_r2) ++ wsX40)
def wsX0_passTick_r1 : List Cond := [Cond.constantLong RX0 32 (-2000000005), Cond.fieldLink RX0 18 "DueWheels$State" "rowSize" "I", Cond.fieldLink RX0 12 "DueWheels$Going" "line" "LDueWheels$Line;", Cond.fieldLink RX0 41 "DueWheels$Line" "size" "I", Cond.fieldLink RX0 44 "DueWheels$Line" "dues" "[I", Cond.methodLink RX0 28 yX4_leastTick, Cond.instanceMethod yX4_leastTick, Cond.selects RX4 yX4_leastTick yX4_leastTick, Cond.initialized RX4, Cond.code yX4_leastTick cX4_leastTick 6 (some .long), Cond.constantLong RX4 58 (1125899906842624), Cond.fieldLink RX4 32 "DueWheels$State" "end" "I", Cond.fieldLink RX4 11 "DueWheels$State" "dues" "[[J", Cond.constantLong RX4 45 (-2000000005), Cond.methodLink RX0 34 yX0_moveTime, Cond.instanceMethod yX0_moveTime, Cond.selects RX0 yX0_moveTime yX0_moveTime, Cond.initialized RX0, Cond.code yX0_moveTime cX0_moveTime 8 none, Cond.fieldLink RX0 52 "DueWheels$State" "time" "J", Cond.fieldLink RX0 56 "DueWheels$State" "end" "I", Cond.fieldLink RX0 59 "DueWheels$State" "dues" "[[J", Cond.fieldLink RX0 68 "DueWheels$State" "moves" "J", Cond.methodLink RX0 62 yX5_movesDown]
def wsX0_passTick_r2 : List Cond := [Cond.static yX5_movesDown, Cond.initialized RX5, Cond.code yX5_movesDown cX5_movesDown 12 (some .int), Cond.methodLink RX5 11 yX5_wheelOf, Cond.static yX5_wheelOf, Cond.code yX5_wheelOf cX5_wheelOf 6 (some .int), Cond.methodLink RX0 38 yX0_findGoers, Cond.instanceMethod yX0_findGoers, Cond.selects RX0 yX0_findGoers yX0_findGoers, Cond.code yX0_findGoers cX0_findGoers 6 none, Cond.methodLink RX0 71 yX0_isFast, Cond.instanceMethod yX0_isFast, Cond.selects RX0 yX0_isFast yX0_isFast, Cond.code yX0_isFast cX0_isFast 5 (some .boolean), Cond.constantLong RX0 86 (2), Cond.methodLink RX0 74 yX0_isLooseFrom, Cond.instanceMethod yX0_isLooseFrom, Cond.selects RX0 yX0_isLooseFrom yX0_isLooseFrom, Cond.code yX0_isLooseFrom cX0_isLooseFrom 5 (some .boolean), Cond.methodLink RX0 78 yX0_rankOf, Cond.instanceMethod yX0_rankOf, Cond.selects RX0 yX0_rankOf yX0_rankOf, Cond.code yX0_rankOf cX0_rankOf 3 (some .long), Cond.constantLong RX0 88 (5)]
def wsX0_passTick_r3 : List Cond := [Cond.methodLink RX0 82 yX2_add, Cond.instanceMethod yX2_add, Cond.selects RX2 yX2_add yX2_add, Cond.initialized RX2, Cond.code yX2_add cX2_add 7 none, Cond.fieldLink RX2 22 "DueWheels$Line" "size" "I", Cond.fieldLink RX2 9 "DueWheels$Line" "dues" "[I", Cond.fieldLink RX2 15 "DueWheels$Line" "firstKeys" "[J", Cond.fieldLink RX2 19 "DueWheels$Line" "secondKeys" "[J", Cond.methodLink RX2 26 yX2_isAhead, Cond.instanceMethod yX2_isAhead, Cond.selects RX2 yX2_isAhead yX2_isAhead, Cond.code yX2_isAhead cX2_isAhead 6 (some .boolean), Cond.methodLink RX0 48 yX0_letGo, Cond.instanceMethod yX0_letGo, Cond.selects RX0 yX0_letGo yX0_letGo, Cond.code yX0_letGo cX0_letGo 3 none, Cond.fieldLink RX0 90 "DueWheels$State" "row" "[[J", Cond.fieldLink RX0 93 "DueWheels$State" "goings" "J", Cond.methodLink RX0 96 yX4_tellGone, Cond.instanceMethod yX4_tellGone, Cond.selects RX4 yX4_tellGone yX4_tellGone, Cond.code yX4_tellGone cX4_tellGone 3 none, Cond.fieldLink RX4 19 "DueWheels$State" "time" "J"]
def wsX0_passTick_r4 : List Cond := [Cond.methodLink RX4 69 yX4_setTick, Cond.instanceMethod yX4_setTick, Cond.selects RX4 yX4_setTick yX4_setTick, Cond.code yX4_setTick cX4_setTick 4 none, Cond.methodLink RX4 60 Lib.MathLoose.min_long.x, Cond.static Lib.MathLoose.min_long.x, Cond.initialized "java/lang/Math", Cond.code Lib.MathLoose.min_long.x Lib.MathLoose.min_long.code 4 (some .long), Cond.methodLink RX0 100 yX0_goesAgain, Cond.instanceMethod yX0_goesAgain, Cond.selects RX0 yX0_goesAgain yX0_goesAgain, Cond.code yX0_goesAgain cX0_goesAgain 5 (some .boolean), Cond.constantLong RX0 110 (1125899906842624), Cond.methodLink RX0 104 yX0_setAgain, Cond.instanceMethod yX0_setAgain, Cond.selects RX0 yX0_setAgain yX0_setAgain, Cond.code yX0_setAgain cX0_setAgain 5 none, Cond.methodLink RX0 112 yX4_setTick, Cond.methodLink RX0 107 yX4_close, Cond.instanceMethod yX4_close, Cond.selects RX4 yX4_close yX4_close, Cond.code yX4_close cX4_close 3 none, Cond.methodLink RX4 51 yX4_clear, Cond.instanceMethod yX4_clear]
def wsX0_passTick_r5 : List Cond := [Cond.selects RX4 yX4_clear yX4_clear, Cond.code yX4_clear cX4_clear 3 none]
def wsX0_passTick : List Cond := .code yX0_passTick cX0_passTick 7 (some .boolean) :: ((wsX0_passTick_r1 ++ (wsX0_passTick_r2 ++ (wsX0_passTick_r3 ++ (wsX0_passTick_r4 ++ wsX0_passTick_r5)))) ++ wsX40 ++ wsX00 ++ wsX20)
def wsX0_goOn_r1 : List Cond := [Cond.fieldLink RX0 18 "DueWheels$State" "rowSize" "I", Cond.methodLink RX0 24 yX0_passTick, Cond.instanceMethod yX0_passTick, Cond.selects RX0 yX0_passTick yX0_passTick, Cond.initialized RX0, Cond.code yX0_passTick cX0_passTick 7 (some .boolean), Cond.constantLong RX0 32 (-2000000005), Cond.fieldLink RX0 12 "DueWheels$Going" "line" "LDueWheels$Line;", Cond.fieldLink RX0 41 "DueWheels$Line" "size" "I", Cond.fieldLink RX0 44 "DueWheels$Line" "dues" "[I", Cond.methodLink RX0 28 yX4_leastTick, Cond.instanceMethod yX4_leastTick, Cond.selects RX4 yX4_leastTick yX4_leastTick, Cond.initialized RX4, Cond.code yX4_leastTick cX4_leastTick 6 (some .long), Cond.constantLong RX4 58 (1125899906842624), Cond.fieldLink RX4 32 "DueWheels$State" "end" "I", Cond.fieldLink RX4 11 "DueWheels$State" "dues" "[[J", Cond.constantLong RX4 45 (-2000000005), Cond.methodLink RX0 34 yX0_moveTime, Cond.instanceMethod yX0_moveTime, Cond.selects RX0 yX0_moveTime yX0_moveTime, Cond.code yX0_moveTime cX0_moveTime 8 none, Cond.fieldLink RX0 52 "DueWheels$State" "time" "J"]
def wsX0_goOn_r2 : List Cond := [Cond.fieldLink RX0 56 "DueWheels$State" "end" "I", Cond.fieldLink RX0 59 "DueWheels$State" "dues" "[[J", Cond.fieldLink RX0 68 "DueWheels$State" "moves" "J", Cond.methodLink RX0 62 yX5_movesDown, Cond.static yX5_movesDown, Cond.initialized RX5, Cond.code yX5_movesDown cX5_movesDown 12 (some .int), Cond.methodLink RX5 11 yX5_wheelOf, Cond.static yX5_wheelOf, Cond.code yX5_wheelOf cX5_wheelOf 6 (some .int), Cond.methodLink RX0 38 yX0_findGoers, Cond.instanceMethod yX0_findGoers, Cond.selects RX0 yX0_findGoers yX0_findGoers, Cond.code yX0_findGoers cX0_findGoers 6 none, Cond.methodLink RX0 71 yX0_isFast, Cond.instanceMethod yX0_isFast, Cond.selects RX0 yX0_isFast yX0_isFast, Cond.code yX0_isFast cX0_isFast 5 (some .boolean), Cond.constantLong RX0 86 (2), Cond.methodLink RX0 74 yX0_isLooseFrom, Cond.instanceMethod yX0_isLooseFrom, Cond.selects RX0 yX0_isLooseFrom yX0_isLooseFrom, Cond.code yX0_isLooseFrom cX0_isLooseFrom 5 (some .boolean), Cond.methodLink RX0 78 yX0_rankOf]
def wsX0_goOn_r3 : List Cond := [Cond.instanceMethod yX0_rankOf, Cond.selects RX0 yX0_rankOf yX0_rankOf, Cond.code yX0_rankOf cX0_rankOf 3 (some .long), Cond.constantLong RX0 88 (5), Cond.methodLink RX0 82 yX2_add, Cond.instanceMethod yX2_add, Cond.selects RX2 yX2_add yX2_add, Cond.initialized RX2, Cond.code yX2_add cX2_add 7 none, Cond.fieldLink RX2 22 "DueWheels$Line" "size" "I", Cond.fieldLink RX2 9 "DueWheels$Line" "dues" "[I", Cond.fieldLink RX2 15 "DueWheels$Line" "firstKeys" "[J", Cond.fieldLink RX2 19 "DueWheels$Line" "secondKeys" "[J", Cond.methodLink RX2 26 yX2_isAhead, Cond.instanceMethod yX2_isAhead, Cond.selects RX2 yX2_isAhead yX2_isAhead, Cond.code yX2_isAhead cX2_isAhead 6 (some .boolean), Cond.methodLink RX0 48 yX0_letGo, Cond.instanceMethod yX0_letGo, Cond.selects RX0 yX0_letGo yX0_letGo, Cond.code yX0_letGo cX0_letGo 3 none, Cond.fieldLink RX0 90 "DueWheels$State" "row" "[[J", Cond.fieldLink RX0 93 "DueWheels$State" "goings" "J", Cond.methodLink RX0 96 yX4_tellGone]
def wsX0_goOn_r4 : List Cond := [Cond.instanceMethod yX4_tellGone, Cond.selects RX4 yX4_tellGone yX4_tellGone, Cond.code yX4_tellGone cX4_tellGone 3 none, Cond.fieldLink RX4 19 "DueWheels$State" "time" "J", Cond.methodLink RX4 69 yX4_setTick, Cond.instanceMethod yX4_setTick, Cond.selects RX4 yX4_setTick yX4_setTick, Cond.code yX4_setTick cX4_setTick 4 none, Cond.methodLink RX4 60 Lib.MathLoose.min_long.x, Cond.static Lib.MathLoose.min_long.x, Cond.initialized "java/lang/Math", Cond.code Lib.MathLoose.min_long.x Lib.MathLoose.min_long.code 4 (some .long), Cond.methodLink RX0 100 yX0_goesAgain, Cond.instanceMethod yX0_goesAgain, Cond.selects RX0 yX0_goesAgain yX0_goesAgain, Cond.code yX0_goesAgain cX0_goesAgain 5 (some .boolean), Cond.constantLong RX0 110 (1125899906842624), Cond.methodLink RX0 104 yX0_setAgain, Cond.instanceMethod yX0_setAgain, Cond.selects RX0 yX0_setAgain yX0_setAgain, Cond.code yX0_setAgain cX0_setAgain 5 none, Cond.methodLink RX0 112 yX4_setTick, Cond.methodLink RX0 107 yX4_close, Cond.instanceMethod yX4_close]
def wsX0_goOn_r5 : List Cond := [Cond.selects RX4 yX4_close yX4_close, Cond.code yX4_close cX4_close 3 none, Cond.methodLink RX4 51 yX4_clear, Cond.instanceMethod yX4_clear, Cond.selects RX4 yX4_clear yX4_clear, Cond.code yX4_clear cX4_clear 3 none]
def wsX0_goOn : List Cond := .code yX0_goOn cX0_goOn 6 none :: ((wsX0_goOn_r1 ++ (wsX0_goOn_r2 ++ (wsX0_goOn_r3 ++ (wsX0_goOn_r4 ++ wsX0_goOn_r5)))) ++ wsX40 ++ wsX00 ++ wsX20)
def wsX4_init : List Cond := .code yX4_init cX4_init 1 none :: ([.methodLink RX4 3 objectInit, .instanceMethod objectInit, .code objectInit ⟨#[0xb1]⟩ 1 none, .classLink RX4 9 "[[J", .arrayClass .long, .fieldLink RX4 11 "DueWheels$State" "dues" "[[J", .fieldLink RX4 16 "DueWheels$State" "row" "[[J"] ++ wsX40)
def wsX1_init : List Cond := .code yX1_init cX1_init 2 none :: ([.methodLink RX1 3 objectInit, .instanceMethod objectInit, .code objectInit ⟨#[0xb1]⟩ 1 none, .classLink RX1 9 RX4, .fieldLink RX1 11 "DueWheels$Kept" "ring" "[LDueWheels$State;", .instantiable RX4 8, .initialized RX4, .instanceMethod yX4_init, .code yX4_init cX4_init 1 none, .methodLink RX4 3 objectInit, .classLink RX4 9 "[[J", .arrayClass .long, .fieldLink RX4 11 "DueWheels$State" "dues" "[[J", .fieldLink RX4 16 "DueWheels$State" "row" "[[J"] ++ wsX10 ++ wsX40)
def wsX4_copyOf : List Cond := .code yX4_copyOf cX4_copyOf 3 none :: ([.fieldLink RX4 19 "DueWheels$State" "time" "J", .fieldLink RX4 23 "DueWheels$State" "places" "J", .fieldLink RX4 26 "DueWheels$State" "goings" "J", .fieldLink RX4 29 "DueWheels$State" "moves" "J", .fieldLink RX4 32 "DueWheels$State" "end" "I", .fieldLink RX4 36 "DueWheels$State" "rowSize" "I", .fieldLink RX4 11 "DueWheels$State" "dues" "[[J", .methodLink RX4 39 arraycopyName, .native arraycopyName, .static arraycopyName, .initialized "java/lang/System", .fieldLink RX4 16 "DueWheels$State" "row" "[[J"] ++ wsX40)
def wsX1_keep : List Cond := .code yX1_keep cX1_keep 2 none :: ([.fieldLink RX1 18 "DueWheels$Kept" "latest" "I", .fieldLink RX1 11 "DueWheels$Kept" "ring" "[LDueWheels$State;", .fieldLink RX1 26 "DueWheels$Kept" "size" "I", .methodLink RX1 29 Lib.Math.min.name, .static Lib.Math.min.name, .initialized "java/lang/Math", .code Lib.Math.min.name Lib.Math.min.code 2 (some .int), .methodLink RX1 22 yX4_copyOf, .instanceMethod yX4_copyOf, .selects RX4 yX4_copyOf yX4_copyOf, .initialized RX4, .code yX4_copyOf cX4_copyOf 3 none, .fieldLink RX4 19 "DueWheels$State" "time" "J", .fieldLink RX4 23 "DueWheels$State" "places" "J", .fieldLink RX4 26 "DueWheels$State" "goings" "J", .fieldLink RX4 29 "DueWheels$State" "moves" "J", .fieldLink RX4 32 "DueWheels$State" "end" "I", .fieldLink RX4 36 "DueWheels$State" "rowSize" "I", .fieldLink RX4 11 "DueWheels$State" "dues" "[[J", .methodLink RX4 39 arraycopyName, .native arraycopyName, .static arraycopyName, .initialized "java/lang/System", .fieldLink RX4 16 "DueWheels$State" "row" "[[J"] ++ wsX10 ++ wsX40)
def wsX1_takeBack : List Cond := .code yX1_takeBack cX1_takeBack 3 (some (.object "DueWheels$State")) :: ([.fieldLink RX1 11 "DueWheels$Kept" "ring" "[LDueWheels$State;", .fieldLink RX1 18 "DueWheels$Kept" "latest" "I", .fieldLink RX1 26 "DueWheels$Kept" "size" "I"] ++ wsX10)
def wsX3_init : List Cond := .code yX3_init cX3_init 1 none :: ([.methodLink RX3 3 objectInit, .instanceMethod objectInit, .code objectInit ⟨#[0xb1]⟩ 1 none, .classLink RX3 9 RX2, .instantiable RX2 4, .initialized RX2, .fieldLink RX3 12 "DueWheels$Settling" "line" "LDueWheels$Line;", .arrayClass .long, .fieldLink RX3 18 "DueWheels$Settling" "settled" "[J", .fieldLink RX3 22 "DueWheels$Settling" "fast" "[J", .instanceMethod yX2_init, .code yX2_init cX2_init 1 none, .methodLink RX2 3 objectInit, .arrayClass .int, .fieldLink RX2 9 "DueWheels$Line" "dues" "[I", .fieldLink RX2 15 "DueWheels$Line" "firstKeys" "[J", .fieldLink RX2 19 "DueWheels$Line" "secondKeys" "[J"] ++ wsX20 ++ wsX30)
def wsX3_addFast : List Cond := .code yX3_addFast cX3_addFast 3 none :: ([.fieldLink RX3 68 "DueWheels$Settling" "fastSize" "I", .fieldLink RX3 22 "DueWheels$Settling" "fast" "[J"] ++ wsX30)
def wsX3_findFast : List Cond := .code yX3_findFast cX3_findFast 3 none :: ([.fieldLink RX3 68 "DueWheels$Settling" "fastSize" "I", .fieldLink RX3 71 "DueWheels$State" "end" "I", .fieldLink RX3 40 "DueWheels$State" "dues" "[[J", .constantLong RX3 74 (2), .constantLong RX3 58 (-2000000005), .methodLink RX3 60 yX3_addFast, .instanceMethod yX3_addFast, .selects RX3 yX3_addFast yX3_addFast, .initialized RX3, .code yX3_addFast cX3_addFast 3 none, .fieldLink RX3 22 "DueWheels$Settling" "fast" "[J"] ++ wsX30 ++ wsX40)
def wsX3_findLoose : List Cond := .code yX3_findLoose cX3_findLoose 3 none :: ([.fieldLink RX3 12 "DueWheels$Settling" "line" "LDueWheels$Line;", .fieldLink RX3 32 "DueWheels$Line" "size" "I", .fieldLink RX3 71 "DueWheels$State" "end" "I", .fieldLink RX3 40 "DueWheels$State" "dues" "[[J", .constantLong RX3 74 (2), .methodLink RX3 76 yX2_add, .instanceMethod yX2_add, .selects RX2 yX2_add yX2_add, .initialized RX2, .code yX2_add cX2_add 7 none, .fieldLink RX2 22 "DueWheels$Line" "size" "I", .fieldLink RX2 9 "DueWheels$Line" "dues" "[I", .fieldLink RX2 15 "DueWheels$Line" "firstKeys" "[J", .fieldLink RX2 19 "DueWheels$Line" "secondKeys" "[J", .methodLink RX2 26 yX2_isAhead, .instanceMethod yX2_isAhead, .selects RX2 yX2_isAhead yX2_isAhead, .code yX2_isAhead cX2_isAhead 6 (some .boolean)] ++ wsX30 ++ wsX20 ++ wsX40)
def wsX3_leastFast : List Cond := .code yX3_leastFast cX3_leastFast 8 (some .long) :: ([.constantLong RX3 58 (-2000000005), .fieldLink RX3 68 "DueWheels$Settling" "fastSize" "I", .fieldLink RX3 22 "DueWheels$Settling" "fast" "[J"] ++ wsX30)
def wsX3_plan_r1 : List Cond := [Cond.fieldLink RX3 12 "DueWheels$Settling" "line" "LDueWheels$Line;", Cond.fieldLink RX3 32 "DueWheels$Line" "size" "I", Cond.fieldLink RX3 36 "DueWheels$Line" "dues" "[I", Cond.fieldLink RX3 40 "DueWheels$State" "dues" "[[J", Cond.fieldLink RX3 45 "DueWheels$State" "time" "J", Cond.methodLink RX3 49 Lib.MathLoose.max_long.x, Cond.static Lib.MathLoose.max_long.x, Cond.initialized "java/lang/Math", Cond.code Lib.MathLoose.max_long.x Lib.MathLoose.max_long.code 4 (some .long), Cond.constantLong RX3 58 (-2000000005), Cond.fieldLink RX3 18 "DueWheels$Settling" "settled" "[J", Cond.methodLink RX3 25 yX3_findFast, Cond.instanceMethod yX3_findFast, Cond.selects RX3 yX3_findFast yX3_findFast, Cond.initialized RX3, Cond.code yX3_findFast cX3_findFast 3 none, Cond.fieldLink RX3 68 "DueWheels$Settling" "fastSize" "I", Cond.fieldLink RX3 71 "DueWheels$State" "end" "I", Cond.constantLong RX3 74 (2), Cond.methodLink RX3 60 yX3_addFast, Cond.instanceMethod yX3_addFast, Cond.selects RX3 yX3_addFast yX3_addFast, Cond.code yX3_addFast cX3_addFast 3 none, Cond.fieldLink RX3 22 "DueWheels$Settling" "fast" "[J"]
def wsX3_plan_r2 : List Cond := [Cond.methodLink RX3 29 yX3_findLoose, Cond.instanceMethod yX3_findLoose, Cond.selects RX3 yX3_findLoose yX3_findLoose, Cond.code yX3_findLoose cX3_findLoose 3 none, Cond.methodLink RX3 76 yX2_add, Cond.instanceMethod yX2_add, Cond.selects RX2 yX2_add yX2_add, Cond.initialized RX2, Cond.code yX2_add cX2_add 7 none, Cond.fieldLink RX2 22 "DueWheels$Line" "size" "I", Cond.fieldLink RX2 9 "DueWheels$Line" "dues" "[I", Cond.fieldLink RX2 15 "DueWheels$Line" "firstKeys" "[J", Cond.fieldLink RX2 19 "DueWheels$Line" "secondKeys" "[J", Cond.methodLink RX2 26 yX2_isAhead, Cond.instanceMethod yX2_isAhead, Cond.selects RX2 yX2_isAhead yX2_isAhead, Cond.code yX2_isAhead cX2_isAhead 6 (some .boolean), Cond.methodLink RX3 55 yX3_leastFast, Cond.instanceMethod yX3_leastFast, Cond.selects RX3 yX3_leastFast yX3_leastFast, Cond.code yX3_leastFast cX3_leastFast 8 (some .long)]
def wsX3_plan : List Cond := .code yX3_plan cX3_plan 9 (some .int) :: ((wsX3_plan_r1 ++ wsX3_plan_r2) ++ wsX30 ++ wsX20 ++ wsX40)
def wsX3_carryOut : List Cond := .code yX3_carryOut cX3_carryOut 4 (some .int) :: ([.fieldLink RX3 12 "DueWheels$Settling" "line" "LDueWheels$Line;", .fieldLink RX3 32 "DueWheels$Line" "size" "I", .fieldLink RX3 40 "DueWheels$State" "dues" "[[J", .fieldLink RX3 36 "DueWheels$Line" "dues" "[I", .fieldLink RX3 18 "DueWheels$Settling" "settled" "[J", .methodLink RX3 64 yX4_setTick, .instanceMethod yX4_setTick, .selects RX4 yX4_setTick yX4_setTick, .initialized RX4, .code yX4_setTick cX4_setTick 4 none, .fieldLink RX4 11 "DueWheels$State" "dues" "[[J", .constantLong RX4 58 (1125899906842624), .methodLink RX4 60 Lib.MathLoose.min_long.x, .static Lib.MathLoose.min_long.x, .initialized "java/lang/Math", .code Lib.MathLoose.min_long.x Lib.MathLoose.min_long.code 4 (some .long)] ++ wsX30 ++ wsX20 ++ wsX40)
def wsX4_isDue : List Cond := .code yX4_isDue cX4_isDue 2 (some .boolean) :: ([.fieldLink RX4 32 "DueWheels$State" "end" "I", .fieldLink RX4 11 "DueWheels$State" "dues" "[[J", .constantLong RX4 45 (-2000000005)] ++ wsX40)
def wsX4_leastFree : List Cond := .code yX4_leastFree cX4_leastFree 2 (some .int) :: ([.fieldLink RX4 32 "DueWheels$State" "end" "I", .fieldLink RX4 11 "DueWheels$State" "dues" "[[J", .constantLong RX4 45 (-2000000005)] ++ wsX40)
def wsX4_isFull : List Cond := .code yX4_isFull cX4_isFull 1 (some .boolean) :: ([.methodLink RX4 47 yX4_leastFree, .instanceMethod yX4_leastFree, .selects RX4 yX4_leastFree yX4_leastFree, .initialized RX4, .code yX4_leastFree cX4_leastFree 2 (some .int), .fieldLink RX4 32 "DueWheels$State" "end" "I", .fieldLink RX4 11 "DueWheels$State" "dues" "[[J", .constantLong RX4 45 (-2000000005)] ++ wsX40)
def wsX4_setPlace : List Cond := .code yX4_setPlace cX4_setPlace 2 none :: ([.fieldLink RX4 11 "DueWheels$State" "dues" "[[J", .fieldLink RX4 23 "DueWheels$State" "places" "J"] ++ wsX40)
def wsX4_open : List Cond := .code yX4_open cX4_open 4 (some .int) :: ([.fieldLink RX4 32 "DueWheels$State" "end" "I", .fieldLink RX4 11 "DueWheels$State" "dues" "[[J", .methodLink RX4 47 yX4_leastFree, .instanceMethod yX4_leastFree, .selects RX4 yX4_leastFree yX4_leastFree, .initialized RX4, .code yX4_leastFree cX4_leastFree 2 (some .int), .constantLong RX4 45 (-2000000005), .methodLink RX4 51 yX4_clear, .instanceMethod yX4_clear, .selects RX4 yX4_clear yX4_clear, .code yX4_clear cX4_clear 3 none, .methodLink RX4 55 yX4_setPlace, .instanceMethod yX4_setPlace, .selects RX4 yX4_setPlace yX4_setPlace, .code yX4_setPlace cX4_setPlace 2 none, .fieldLink RX4 23 "DueWheels$State" "places" "J"] ++ wsX40)
def wsX4_isBehind : List Cond := .code yX4_isBehind cX4_isBehind 6 (some .boolean) :: ([.fieldLink RX4 32 "DueWheels$State" "end" "I", .fieldLink RX4 11 "DueWheels$State" "dues" "[[J"] ++ wsX40)
def wsX4_tellDropped : List Cond := .code yX4_tellDropped cX4_tellDropped 3 none :: ([.fieldLink RX4 32 "DueWheels$State" "end" "I", .fieldLink RX4 11 "DueWheels$State" "dues" "[[J", .constantLong RX4 45 (-2000000005), .fieldLink RX4 19 "DueWheels$State" "time" "J", .methodLink RX4 66 Lib.MathLoose.max_long.x, .static Lib.MathLoose.max_long.x, .initialized "java/lang/Math", .code Lib.MathLoose.max_long.x Lib.MathLoose.max_long.code 4 (some .long), .methodLink RX4 69 yX4_setTick, .instanceMethod yX4_setTick, .selects RX4 yX4_setTick yX4_setTick, .initialized RX4, .code yX4_setTick cX4_setTick 4 none, .constantLong RX4 58 (1125899906842624), .methodLink RX4 60 Lib.MathLoose.min_long.x, .static Lib.MathLoose.min_long.x, .code Lib.MathLoose.min_long.x Lib.MathLoose.min_long.code 4 (some .long)] ++ wsX40)
def wsX5_slotOf : List Cond := .code yX5_slotOf cX5_slotOf 3 (some .int) :: ([.constantLong RX5 9 (63)])
def wsX4_liesIn : List Cond := .code yX4_liesIn cX4_liesIn 6 (some .boolean) :: ([.fieldLink RX4 11 "DueWheels$State" "dues" "[[J", .constantLong RX4 45 (-2000000005), .fieldLink RX4 19 "DueWheels$State" "time" "J", .methodLink RX4 73 yX5_wheelOf, .static yX5_wheelOf, .initialized RX5, .code yX5_wheelOf cX5_wheelOf 6 (some .int), .methodLink RX4 79 yX5_slotOf, .static yX5_slotOf, .code yX5_slotOf cX5_slotOf 3 (some .int), .constantLong RX5 9 (63)] ++ wsX40)
def wsX4_duesWith : List Cond := .code yX4_duesWith cX4_duesWith 5 (some .long) :: ([.fieldLink RX4 32 "DueWheels$State" "end" "I", .fieldLink RX4 11 "DueWheels$State" "dues" "[[J", .constantLong RX4 45 (-2000000005)] ++ wsX40)
def wsX5_isSlot : List Cond := .code yX5_isSlot cX5_isSlot 2 (some .boolean) :: ([])
def wsX6_init_r1 : List Cond := [Cond.methodLink RX6 1 objectInit, Cond.instanceMethod objectInit, Cond.code objectInit ⟨#[0xb1]⟩ 1 none, Cond.classLink RX6 7 RX1, Cond.instantiable RX1 3, Cond.initialized RX1, Cond.fieldLink RX6 10 "DueWheels" "kept" "LDueWheels$Kept;", Cond.classLink RX6 16 RX0, Cond.instantiable RX0 1, Cond.initialized RX0, Cond.fieldLink RX6 19 "DueWheels" "going" "LDueWheels$Going;", Cond.classLink RX6 23 RX3, Cond.instantiable RX3 4, Cond.initialized RX3, Cond.fieldLink RX6 26 "DueWheels" "settling" "LDueWheels$Settling;", Cond.classLink RX6 30 RX4, Cond.instantiable RX4 8, Cond.initialized RX4, Cond.fieldLink RX6 33 "DueWheels" "state" "LDueWheels$State;", Cond.methodLink RX6 9 yX1_init, Cond.instanceMethod yX1_init, Cond.code yX1_init cX1_init 2 none, Cond.methodLink RX1 3 objectInit, Cond.classLink RX1 9 RX4]
def wsX6_init_r2 : List Cond := [Cond.fieldLink RX1 11 "DueWheels$Kept" "ring" "[LDueWheels$State;", Cond.instanceMethod yX4_init, Cond.code yX4_init cX4_init 1 none, Cond.methodLink RX4 3 objectInit, Cond.classLink RX4 9 "[[J", Cond.arrayClass .long, Cond.fieldLink RX4 11 "DueWheels$State" "dues" "[[J", Cond.fieldLink RX4 16 "DueWheels$State" "row" "[[J", Cond.instanceMethod yX0_init, Cond.code yX0_init cX0_init 1 none, Cond.methodLink RX0 3 objectInit, Cond.classLink RX0 9 RX2, Cond.instantiable RX2 4, Cond.initialized RX2, Cond.fieldLink RX0 12 "DueWheels$Going" "line" "LDueWheels$Line;", Cond.instanceMethod yX2_init, Cond.code yX2_init cX2_init 1 none, Cond.methodLink RX2 3 objectInit, Cond.arrayClass .int, Cond.fieldLink RX2 9 "DueWheels$Line" "dues" "[I", Cond.fieldLink RX2 15 "DueWheels$Line" "firstKeys" "[J", Cond.fieldLink RX2 19 "DueWheels$Line" "secondKeys" "[J", Cond.instanceMethod yX3_init, Cond.code yX3_init cX3_init 1 none]
def wsX6_init_r3 : List Cond := [Cond.methodLink RX3 3 objectInit, Cond.classLink RX3 9 RX2, Cond.fieldLink RX3 12 "DueWheels$Settling" "line" "LDueWheels$Line;", Cond.fieldLink RX3 18 "DueWheels$Settling" "settled" "[J", Cond.fieldLink RX3 22 "DueWheels$Settling" "fast" "[J"]
def wsX6_init : List Cond := .code yX6_init cX6_init 1 none :: ((wsX6_init_r1 ++ (wsX6_init_r2 ++ wsX6_init_r3)) ++ wsX10 ++ wsX60 ++ wsX00 ++ wsX30 ++ wsX40 ++ wsX20)
def wsX6_isTickAhead : List Cond := .code yX6_isTickAhead cX6_isTickAhead 3 (some .boolean) :: ([.fieldLink RX6 33 "DueWheels" "state" "LDueWheels$State;", .fieldLink RX6 108 "DueWheels$State" "time" "J", .constantLong RX6 76 (1125899906842624)] ++ wsX60 ++ wsX40)
def wsX6_once_r1 : List Cond := [Cond.constantLong RX6 41 (-2000000001), Cond.fieldLink RX6 33 "DueWheels" "state" "LDueWheels$State;", Cond.constantLong RX6 47 (-2000000003), Cond.fieldLink RX6 10 "DueWheels" "kept" "LDueWheels$Kept;", Cond.methodLink RX6 37 yX6_isTickAhead, Cond.instanceMethod yX6_isTickAhead, Cond.selects RX6 yX6_isTickAhead yX6_isTickAhead, Cond.initialized RX6, Cond.code yX6_isTickAhead cX6_isTickAhead 3 (some .boolean), Cond.fieldLink RX6 108 "DueWheels$State" "time" "J", Cond.constantLong RX6 76 (1125899906842624), Cond.methodLink RX6 43 yX4_isFull, Cond.instanceMethod yX4_isFull, Cond.selects RX4 yX4_isFull yX4_isFull, Cond.initialized RX4, Cond.code yX4_isFull cX4_isFull 1 (some .boolean), Cond.methodLink RX4 47 yX4_leastFree, Cond.instanceMethod yX4_leastFree, Cond.selects RX4 yX4_leastFree yX4_leastFree, Cond.code yX4_leastFree cX4_leastFree 2 (some .int), Cond.fieldLink RX4 32 "DueWheels$State" "end" "I", Cond.fieldLink RX4 11 "DueWheels$State" "dues" "[[J", Cond.constantLong RX4 45 (-2000000005), Cond.methodLink RX6 49 yX1_keep]
def wsX6_once_r2 : List Cond := [Cond.instanceMethod yX1_keep, Cond.selects RX1 yX1_keep yX1_keep, Cond.initialized RX1, Cond.code yX1_keep cX1_keep 2 none, Cond.fieldLink RX1 18 "DueWheels$Kept" "latest" "I", Cond.fieldLink RX1 11 "DueWheels$Kept" "ring" "[LDueWheels$State;", Cond.fieldLink RX1 26 "DueWheels$Kept" "size" "I", Cond.methodLink RX1 29 Lib.Math.min.name, Cond.static Lib.Math.min.name, Cond.initialized "java/lang/Math", Cond.code Lib.Math.min.name Lib.Math.min.code 2 (some .int), Cond.methodLink RX1 22 yX4_copyOf, Cond.instanceMethod yX4_copyOf, Cond.selects RX4 yX4_copyOf yX4_copyOf, Cond.code yX4_copyOf cX4_copyOf 3 none, Cond.fieldLink RX4 19 "DueWheels$State" "time" "J", Cond.fieldLink RX4 23 "DueWheels$State" "places" "J", Cond.fieldLink RX4 26 "DueWheels$State" "goings" "J", Cond.fieldLink RX4 29 "DueWheels$State" "moves" "J", Cond.fieldLink RX4 36 "DueWheels$State" "rowSize" "I", Cond.methodLink RX4 39 arraycopyName, Cond.native arraycopyName, Cond.static arraycopyName, Cond.initialized "java/lang/System"]
def wsX6_once_r3 : List Cond := [Cond.fieldLink RX4 16 "DueWheels$State" "row" "[[J", Cond.methodLink RX6 53 yX4_open, Cond.instanceMethod yX4_open, Cond.selects RX4 yX4_open yX4_open, Cond.code yX4_open cX4_open 4 (some .int), Cond.methodLink RX4 51 yX4_clear, Cond.instanceMethod yX4_clear, Cond.selects RX4 yX4_clear yX4_clear, Cond.code yX4_clear cX4_clear 3 none, Cond.methodLink RX4 55 yX4_setPlace, Cond.instanceMethod yX4_setPlace, Cond.selects RX4 yX4_setPlace yX4_setPlace, Cond.code yX4_setPlace cX4_setPlace 2 none, Cond.methodLink RX6 57 yX4_setTick, Cond.instanceMethod yX4_setTick, Cond.selects RX4 yX4_setTick yX4_setTick, Cond.code yX4_setTick cX4_setTick 4 none, Cond.constantLong RX4 58 (1125899906842624), Cond.methodLink RX4 60 Lib.MathLoose.min_long.x, Cond.static Lib.MathLoose.min_long.x, Cond.code Lib.MathLoose.min_long.x Lib.MathLoose.min_long.code 4 (some .long)]
def wsX6_once : List Cond := .code yX6_once cX6_once 5 (some .long) :: ((wsX6_once_r1 ++ (wsX6_once_r2 ++ wsX6_once_r3)) ++ wsX60 ++ wsX40 ++ wsX10)
def wsX6_isSpan : List Cond := .code yX6_isSpan cX6_isSpan 2 (some .boolean) :: ([.constantLong RX6 76 (1125899906842624)])
def wsX6_openRepeated_r1 : List Cond := [Cond.constant RX6 173 (1000000), Cond.constantLong RX6 41 (-2000000001), Cond.fieldLink RX6 33 "DueWheels" "state" "LDueWheels$State;", Cond.constantLong RX6 47 (-2000000003), Cond.fieldLink RX6 10 "DueWheels" "kept" "LDueWheels$Kept;", Cond.fieldLink RX6 65 "DueWheels$State" "dues" "[[J", Cond.methodLink RX6 37 yX6_isTickAhead, Cond.instanceMethod yX6_isTickAhead, Cond.selects RX6 yX6_isTickAhead yX6_isTickAhead, Cond.initialized RX6, Cond.code yX6_isTickAhead cX6_isTickAhead 3 (some .boolean), Cond.fieldLink RX6 108 "DueWheels$State" "time" "J", Cond.constantLong RX6 76 (1125899906842624), Cond.methodLink RX6 73 yX6_isSpan, Cond.static yX6_isSpan, Cond.code yX6_isSpan cX6_isSpan 2 (some .boolean), Cond.methodLink RX6 43 yX4_isFull, Cond.instanceMethod yX4_isFull, Cond.selects RX4 yX4_isFull yX4_isFull, Cond.initialized RX4, Cond.code yX4_isFull cX4_isFull 1 (some .boolean), Cond.methodLink RX4 47 yX4_leastFree, Cond.instanceMethod yX4_leastFree, Cond.selects RX4 yX4_leastFree yX4_leastFree]
def wsX6_openRepeated_r2 : List Cond := [Cond.code yX4_leastFree cX4_leastFree 2 (some .int), Cond.fieldLink RX4 32 "DueWheels$State" "end" "I", Cond.fieldLink RX4 11 "DueWheels$State" "dues" "[[J", Cond.constantLong RX4 45 (-2000000005), Cond.methodLink RX6 49 yX1_keep, Cond.instanceMethod yX1_keep, Cond.selects RX1 yX1_keep yX1_keep, Cond.initialized RX1, Cond.code yX1_keep cX1_keep 2 none, Cond.fieldLink RX1 18 "DueWheels$Kept" "latest" "I", Cond.fieldLink RX1 11 "DueWheels$Kept" "ring" "[LDueWheels$State;", Cond.fieldLink RX1 26 "DueWheels$Kept" "size" "I", Cond.methodLink RX1 29 Lib.Math.min.name, Cond.static Lib.Math.min.name, Cond.initialized "java/lang/Math", Cond.code Lib.Math.min.name Lib.Math.min.code 2 (some .int), Cond.methodLink RX1 22 yX4_copyOf, Cond.instanceMethod yX4_copyOf, Cond.selects RX4 yX4_copyOf yX4_copyOf, Cond.code yX4_copyOf cX4_copyOf 3 none, Cond.fieldLink RX4 19 "DueWheels$State" "time" "J", Cond.fieldLink RX4 23 "DueWheels$State" "places" "J", Cond.fieldLink RX4 26 "DueWheels$State" "goings" "J", Cond.fieldLink RX4 29 "DueWheels$State" "moves" "J"]
def wsX6_openRepeated_r3 : List Cond := [Cond.fieldLink RX4 36 "DueWheels$State" "rowSize" "I", Cond.methodLink RX4 39 arraycopyName, Cond.native arraycopyName, Cond.static arraycopyName, Cond.initialized "java/lang/System", Cond.fieldLink RX4 16 "DueWheels$State" "row" "[[J", Cond.methodLink RX6 53 yX4_open, Cond.instanceMethod yX4_open, Cond.selects RX4 yX4_open yX4_open, Cond.code yX4_open cX4_open 4 (some .int), Cond.methodLink RX4 51 yX4_clear, Cond.instanceMethod yX4_clear, Cond.selects RX4 yX4_clear yX4_clear, Cond.code yX4_clear cX4_clear 3 none, Cond.methodLink RX4 55 yX4_setPlace, Cond.instanceMethod yX4_setPlace, Cond.selects RX4 yX4_setPlace yX4_setPlace, Cond.code yX4_setPlace cX4_setPlace 2 none, Cond.methodLink RX6 57 yX4_setTick, Cond.instanceMethod yX4_setTick, Cond.selects RX4 yX4_setTick yX4_setTick, Cond.code yX4_setTick cX4_setTick 4 none, Cond.constantLong RX4 58 (1125899906842624), Cond.methodLink RX4 60 Lib.MathLoose.min_long.x]
def wsX6_openRepeated_r4 : List Cond := [Cond.static Lib.MathLoose.min_long.x, Cond.code Lib.MathLoose.min_long.x Lib.MathLoose.min_long.code 4 (some .long)]
def wsX6_openRepeated : List Cond := .code yX6_openRepeated cX6_openRepeated 9 (some .long) :: ((wsX6_openRepeated_r1 ++ (wsX6_openRepeated_r2 ++ (wsX6_openRepeated_r3 ++ wsX6_openRepeated_r4))) ++ wsX60 ++ wsX40 ++ wsX10)
def wsX6_often_r1 : List Cond := [Cond.methodLink RX6 61 yX6_openRepeated, Cond.instanceMethod yX6_openRepeated, Cond.selects RX6 yX6_openRepeated yX6_openRepeated, Cond.initialized RX6, Cond.code yX6_openRepeated cX6_openRepeated 9 (some .long), Cond.constant RX6 173 (1000000), Cond.constantLong RX6 41 (-2000000001), Cond.fieldLink RX6 33 "DueWheels" "state" "LDueWheels$State;", Cond.constantLong RX6 47 (-2000000003), Cond.fieldLink RX6 10 "DueWheels" "kept" "LDueWheels$Kept;", Cond.fieldLink RX6 65 "DueWheels$State" "dues" "[[J", Cond.methodLink RX6 37 yX6_isTickAhead, Cond.instanceMethod yX6_isTickAhead, Cond.selects RX6 yX6_isTickAhead yX6_isTickAhead, Cond.code yX6_isTickAhead cX6_isTickAhead 3 (some .boolean), Cond.fieldLink RX6 108 "DueWheels$State" "time" "J", Cond.constantLong RX6 76 (1125899906842624), Cond.methodLink RX6 73 yX6_isSpan, Cond.static yX6_isSpan, Cond.code yX6_isSpan cX6_isSpan 2 (some .boolean), Cond.methodLink RX6 43 yX4_isFull, Cond.instanceMethod yX4_isFull, Cond.selects RX4 yX4_isFull yX4_isFull, Cond.initialized RX4]
def wsX6_often_r2 : List Cond := [Cond.code yX4_isFull cX4_isFull 1 (some .boolean), Cond.methodLink RX4 47 yX4_leastFree, Cond.instanceMethod yX4_leastFree, Cond.selects RX4 yX4_leastFree yX4_leastFree, Cond.code yX4_leastFree cX4_leastFree 2 (some .int), Cond.fieldLink RX4 32 "DueWheels$State" "end" "I", Cond.fieldLink RX4 11 "DueWheels$State" "dues" "[[J", Cond.constantLong RX4 45 (-2000000005), Cond.methodLink RX6 49 yX1_keep, Cond.instanceMethod yX1_keep, Cond.selects RX1 yX1_keep yX1_keep, Cond.initialized RX1, Cond.code yX1_keep cX1_keep 2 none, Cond.fieldLink RX1 18 "DueWheels$Kept" "latest" "I", Cond.fieldLink RX1 11 "DueWheels$Kept" "ring" "[LDueWheels$State;", Cond.fieldLink RX1 26 "DueWheels$Kept" "size" "I", Cond.methodLink RX1 29 Lib.Math.min.name, Cond.static Lib.Math.min.name, Cond.initialized "java/lang/Math", Cond.code Lib.Math.min.name Lib.Math.min.code 2 (some .int), Cond.methodLink RX1 22 yX4_copyOf, Cond.instanceMethod yX4_copyOf, Cond.selects RX4 yX4_copyOf yX4_copyOf, Cond.code yX4_copyOf cX4_copyOf 3 none]
def wsX6_often_r3 : List Cond := [Cond.fieldLink RX4 19 "DueWheels$State" "time" "J", Cond.fieldLink RX4 23 "DueWheels$State" "places" "J", Cond.fieldLink RX4 26 "DueWheels$State" "goings" "J", Cond.fieldLink RX4 29 "DueWheels$State" "moves" "J", Cond.fieldLink RX4 36 "DueWheels$State" "rowSize" "I", Cond.methodLink RX4 39 arraycopyName, Cond.native arraycopyName, Cond.static arraycopyName, Cond.initialized "java/lang/System", Cond.fieldLink RX4 16 "DueWheels$State" "row" "[[J", Cond.methodLink RX6 53 yX4_open, Cond.instanceMethod yX4_open, Cond.selects RX4 yX4_open yX4_open, Cond.code yX4_open cX4_open 4 (some .int), Cond.methodLink RX4 51 yX4_clear, Cond.instanceMethod yX4_clear, Cond.selects RX4 yX4_clear yX4_clear, Cond.code yX4_clear cX4_clear 3 none, Cond.methodLink RX4 55 yX4_setPlace, Cond.instanceMethod yX4_setPlace, Cond.selects RX4 yX4_setPlace yX4_setPlace, Cond.code yX4_setPlace cX4_setPlace 2 none, Cond.methodLink RX6 57 yX4_setTick, Cond.instanceMethod yX4_setTick]
def wsX6_often_r4 : List Cond := [Cond.selects RX4 yX4_setTick yX4_setTick, Cond.code yX4_setTick cX4_setTick 4 none, Cond.constantLong RX4 58 (1125899906842624), Cond.methodLink RX4 60 Lib.MathLoose.min_long.x, Cond.static Lib.MathLoose.min_long.x, Cond.code Lib.MathLoose.min_long.x Lib.MathLoose.min_long.code 4 (some .long)]
def wsX6_often : List Cond := .code yX6_often cX6_often 7 (some .long) :: ((wsX6_often_r1 ++ (wsX6_often_r2 ++ (wsX6_often_r3 ++ wsX6_often_r4))) ++ wsX60 ++ wsX40 ++ wsX10)
def wsX6_loose_r1 : List Cond := [Cond.constantLong RX6 41 (-2000000001), Cond.fieldLink RX6 33 "DueWheels" "state" "LDueWheels$State;", Cond.constantLong RX6 47 (-2000000003), Cond.fieldLink RX6 10 "DueWheels" "kept" "LDueWheels$Kept;", Cond.fieldLink RX6 65 "DueWheels$State" "dues" "[[J", Cond.methodLink RX6 37 yX6_isTickAhead, Cond.instanceMethod yX6_isTickAhead, Cond.selects RX6 yX6_isTickAhead yX6_isTickAhead, Cond.initialized RX6, Cond.code yX6_isTickAhead cX6_isTickAhead 3 (some .boolean), Cond.fieldLink RX6 108 "DueWheels$State" "time" "J", Cond.constantLong RX6 76 (1125899906842624), Cond.methodLink RX6 43 yX4_isFull, Cond.instanceMethod yX4_isFull, Cond.selects RX4 yX4_isFull yX4_isFull, Cond.initialized RX4, Cond.code yX4_isFull cX4_isFull 1 (some .boolean), Cond.methodLink RX4 47 yX4_leastFree, Cond.instanceMethod yX4_leastFree, Cond.selects RX4 yX4_leastFree yX4_leastFree, Cond.code yX4_leastFree cX4_leastFree 2 (some .int), Cond.fieldLink RX4 32 "DueWheels$State" "end" "I", Cond.fieldLink RX4 11 "DueWheels$State" "dues" "[[J", Cond.constantLong RX4 45 (-2000000005)]
def wsX6_loose_r2 : List Cond := [Cond.methodLink RX6 49 yX1_keep, Cond.instanceMethod yX1_keep, Cond.selects RX1 yX1_keep yX1_keep, Cond.initialized RX1, Cond.code yX1_keep cX1_keep 2 none, Cond.fieldLink RX1 18 "DueWheels$Kept" "latest" "I", Cond.fieldLink RX1 11 "DueWheels$Kept" "ring" "[LDueWheels$State;", Cond.fieldLink RX1 26 "DueWheels$Kept" "size" "I", Cond.methodLink RX1 29 Lib.Math.min.name, Cond.static Lib.Math.min.name, Cond.initialized "java/lang/Math", Cond.code Lib.Math.min.name Lib.Math.min.code 2 (some .int), Cond.methodLink RX1 22 yX4_copyOf, Cond.instanceMethod yX4_copyOf, Cond.selects RX4 yX4_copyOf yX4_copyOf, Cond.code yX4_copyOf cX4_copyOf 3 none, Cond.fieldLink RX4 19 "DueWheels$State" "time" "J", Cond.fieldLink RX4 23 "DueWheels$State" "places" "J", Cond.fieldLink RX4 26 "DueWheels$State" "goings" "J", Cond.fieldLink RX4 29 "DueWheels$State" "moves" "J", Cond.fieldLink RX4 36 "DueWheels$State" "rowSize" "I", Cond.methodLink RX4 39 arraycopyName, Cond.native arraycopyName, Cond.static arraycopyName]
def wsX6_loose_r3 : List Cond := [Cond.initialized "java/lang/System", Cond.fieldLink RX4 16 "DueWheels$State" "row" "[[J", Cond.methodLink RX6 53 yX4_open, Cond.instanceMethod yX4_open, Cond.selects RX4 yX4_open yX4_open, Cond.code yX4_open cX4_open 4 (some .int), Cond.methodLink RX4 51 yX4_clear, Cond.instanceMethod yX4_clear, Cond.selects RX4 yX4_clear yX4_clear, Cond.code yX4_clear cX4_clear 3 none, Cond.methodLink RX4 55 yX4_setPlace, Cond.instanceMethod yX4_setPlace, Cond.selects RX4 yX4_setPlace yX4_setPlace, Cond.code yX4_setPlace cX4_setPlace 2 none, Cond.methodLink RX6 57 yX4_setTick, Cond.instanceMethod yX4_setTick, Cond.selects RX4 yX4_setTick yX4_setTick, Cond.code yX4_setTick cX4_setTick 4 none, Cond.constantLong RX4 58 (1125899906842624), Cond.methodLink RX4 60 Lib.MathLoose.min_long.x, Cond.static Lib.MathLoose.min_long.x, Cond.code Lib.MathLoose.min_long.x Lib.MathLoose.min_long.code 4 (some .long)]
def wsX6_loose : List Cond := .code yX6_loose cX6_loose 7 (some .long) :: ((wsX6_loose_r1 ++ (wsX6_loose_r2 ++ wsX6_loose_r3)) ++ wsX60 ++ wsX40 ++ wsX10)
def wsX6_chained_r1 : List Cond := [Cond.fieldLink RX6 33 "DueWheels" "state" "LDueWheels$State;", Cond.constantLong RX6 76 (1125899906842624), Cond.constantLong RX6 41 (-2000000001), Cond.constantLong RX6 47 (-2000000003), Cond.fieldLink RX6 10 "DueWheels" "kept" "LDueWheels$Kept;", Cond.fieldLink RX6 65 "DueWheels$State" "dues" "[[J", Cond.methodLink RX6 69 yX4_isDue, Cond.instanceMethod yX4_isDue, Cond.selects RX4 yX4_isDue yX4_isDue, Cond.initialized RX4, Cond.code yX4_isDue cX4_isDue 2 (some .boolean), Cond.fieldLink RX4 32 "DueWheels$State" "end" "I", Cond.fieldLink RX4 11 "DueWheels$State" "dues" "[[J", Cond.constantLong RX4 45 (-2000000005), Cond.methodLink RX6 73 yX6_isSpan, Cond.static yX6_isSpan, Cond.initialized RX6, Cond.code yX6_isSpan cX6_isSpan 2 (some .boolean), Cond.methodLink RX6 43 yX4_isFull, Cond.instanceMethod yX4_isFull, Cond.selects RX4 yX4_isFull yX4_isFull, Cond.code yX4_isFull cX4_isFull 1 (some .boolean), Cond.methodLink RX4 47 yX4_leastFree, Cond.instanceMethod yX4_leastFree]
def wsX6_chained_r2 : List Cond := [Cond.selects RX4 yX4_leastFree yX4_leastFree, Cond.code yX4_leastFree cX4_leastFree 2 (some .int), Cond.methodLink RX6 49 yX1_keep, Cond.instanceMethod yX1_keep, Cond.selects RX1 yX1_keep yX1_keep, Cond.initialized RX1, Cond.code yX1_keep cX1_keep 2 none, Cond.fieldLink RX1 18 "DueWheels$Kept" "latest" "I", Cond.fieldLink RX1 11 "DueWheels$Kept" "ring" "[LDueWheels$State;", Cond.fieldLink RX1 26 "DueWheels$Kept" "size" "I", Cond.methodLink RX1 29 Lib.Math.min.name, Cond.static Lib.Math.min.name, Cond.initialized "java/lang/Math", Cond.code Lib.Math.min.name Lib.Math.min.code 2 (some .int), Cond.methodLink RX1 22 yX4_copyOf, Cond.instanceMethod yX4_copyOf, Cond.selects RX4 yX4_copyOf yX4_copyOf, Cond.code yX4_copyOf cX4_copyOf 3 none, Cond.fieldLink RX4 19 "DueWheels$State" "time" "J", Cond.fieldLink RX4 23 "DueWheels$State" "places" "J", Cond.fieldLink RX4 26 "DueWheels$State" "goings" "J", Cond.fieldLink RX4 29 "DueWheels$State" "moves" "J", Cond.fieldLink RX4 36 "DueWheels$State" "rowSize" "I", Cond.methodLink RX4 39 arraycopyName]
def wsX6_chained_r3 : List Cond := [Cond.native arraycopyName, Cond.static arraycopyName, Cond.initialized "java/lang/System", Cond.fieldLink RX4 16 "DueWheels$State" "row" "[[J", Cond.methodLink RX6 53 yX4_open, Cond.instanceMethod yX4_open, Cond.selects RX4 yX4_open yX4_open, Cond.code yX4_open cX4_open 4 (some .int), Cond.methodLink RX4 51 yX4_clear, Cond.instanceMethod yX4_clear, Cond.selects RX4 yX4_clear yX4_clear, Cond.code yX4_clear cX4_clear 3 none, Cond.methodLink RX4 55 yX4_setPlace, Cond.instanceMethod yX4_setPlace, Cond.selects RX4 yX4_setPlace yX4_setPlace, Cond.code yX4_setPlace cX4_setPlace 2 none]
def wsX6_chained : List Cond := .code yX6_chained cX6_chained 8 (some .long) :: ((wsX6_chained_r1 ++ (wsX6_chained_r2 ++ wsX6_chained_r3)) ++ wsX60 ++ wsX40 ++ wsX10)
def wsX6_resting_r1 : List Cond := [Cond.methodLink RX6 61 yX6_openRepeated, Cond.instanceMethod yX6_openRepeated, Cond.selects RX6 yX6_openRepeated yX6_openRepeated, Cond.initialized RX6, Cond.code yX6_openRepeated cX6_openRepeated 9 (some .long), Cond.constant RX6 173 (1000000), Cond.constantLong RX6 41 (-2000000001), Cond.fieldLink RX6 33 "DueWheels" "state" "LDueWheels$State;", Cond.constantLong RX6 47 (-2000000003), Cond.fieldLink RX6 10 "DueWheels" "kept" "LDueWheels$Kept;", Cond.fieldLink RX6 65 "DueWheels$State" "dues" "[[J", Cond.methodLink RX6 37 yX6_isTickAhead, Cond.instanceMethod yX6_isTickAhead, Cond.selects RX6 yX6_isTickAhead yX6_isTickAhead, Cond.code yX6_isTickAhead cX6_isTickAhead 3 (some .boolean), Cond.fieldLink RX6 108 "DueWheels$State" "time" "J", Cond.constantLong RX6 76 (1125899906842624), Cond.methodLink RX6 73 yX6_isSpan, Cond.static yX6_isSpan, Cond.code yX6_isSpan cX6_isSpan 2 (some .boolean), Cond.methodLink RX6 43 yX4_isFull, Cond.instanceMethod yX4_isFull, Cond.selects RX4 yX4_isFull yX4_isFull, Cond.initialized RX4]
def wsX6_resting_r2 : List Cond := [Cond.code yX4_isFull cX4_isFull 1 (some .boolean), Cond.methodLink RX4 47 yX4_leastFree, Cond.instanceMethod yX4_leastFree, Cond.selects RX4 yX4_leastFree yX4_leastFree, Cond.code yX4_leastFree cX4_leastFree 2 (some .int), Cond.fieldLink RX4 32 "DueWheels$State" "end" "I", Cond.fieldLink RX4 11 "DueWheels$State" "dues" "[[J", Cond.constantLong RX4 45 (-2000000005), Cond.methodLink RX6 49 yX1_keep, Cond.instanceMethod yX1_keep, Cond.selects RX1 yX1_keep yX1_keep, Cond.initialized RX1, Cond.code yX1_keep cX1_keep 2 none, Cond.fieldLink RX1 18 "DueWheels$Kept" "latest" "I", Cond.fieldLink RX1 11 "DueWheels$Kept" "ring" "[LDueWheels$State;", Cond.fieldLink RX1 26 "DueWheels$Kept" "size" "I", Cond.methodLink RX1 29 Lib.Math.min.name, Cond.static Lib.Math.min.name, Cond.initialized "java/lang/Math", Cond.code Lib.Math.min.name Lib.Math.min.code 2 (some .int), Cond.methodLink RX1 22 yX4_copyOf, Cond.instanceMethod yX4_copyOf, Cond.selects RX4 yX4_copyOf yX4_copyOf, Cond.code yX4_copyOf cX4_copyOf 3 none]
def wsX6_resting_r3 : List Cond := [Cond.fieldLink RX4 19 "DueWheels$State" "time" "J", Cond.fieldLink RX4 23 "DueWheels$State" "places" "J", Cond.fieldLink RX4 26 "DueWheels$State" "goings" "J", Cond.fieldLink RX4 29 "DueWheels$State" "moves" "J", Cond.fieldLink RX4 36 "DueWheels$State" "rowSize" "I", Cond.methodLink RX4 39 arraycopyName, Cond.native arraycopyName, Cond.static arraycopyName, Cond.initialized "java/lang/System", Cond.fieldLink RX4 16 "DueWheels$State" "row" "[[J", Cond.methodLink RX6 53 yX4_open, Cond.instanceMethod yX4_open, Cond.selects RX4 yX4_open yX4_open, Cond.code yX4_open cX4_open 4 (some .int), Cond.methodLink RX4 51 yX4_clear, Cond.instanceMethod yX4_clear, Cond.selects RX4 yX4_clear yX4_clear, Cond.code yX4_clear cX4_clear 3 none, Cond.methodLink RX4 55 yX4_setPlace, Cond.instanceMethod yX4_setPlace, Cond.selects RX4 yX4_setPlace yX4_setPlace, Cond.code yX4_setPlace cX4_setPlace 2 none, Cond.methodLink RX6 57 yX4_setTick, Cond.instanceMethod yX4_setTick]
def wsX6_resting_r4 : List Cond := [Cond.selects RX4 yX4_setTick yX4_setTick, Cond.code yX4_setTick cX4_setTick 4 none, Cond.constantLong RX4 58 (1125899906842624), Cond.methodLink RX4 60 Lib.MathLoose.min_long.x, Cond.static Lib.MathLoose.min_long.x, Cond.code Lib.MathLoose.min_long.x Lib.MathLoose.min_long.code 4 (some .long)]
def wsX6_resting : List Cond := .code yX6_resting cX6_resting 7 (some .long) :: ((wsX6_resting_r1 ++ (wsX6_resting_r2 ++ (wsX6_resting_r3 ++ wsX6_resting_r4))) ++ wsX60 ++ wsX40 ++ wsX10)
def wsX6_drop_r1 : List Cond := [Cond.fieldLink RX6 33 "DueWheels" "state" "LDueWheels$State;", Cond.constantLong RX6 41 (-2000000001), Cond.fieldLink RX6 10 "DueWheels" "kept" "LDueWheels$Kept;", Cond.fieldLink RX6 65 "DueWheels$State" "dues" "[[J", Cond.methodLink RX6 69 yX4_isDue, Cond.instanceMethod yX4_isDue, Cond.selects RX4 yX4_isDue yX4_isDue, Cond.initialized RX4, Cond.code yX4_isDue cX4_isDue 2 (some .boolean), Cond.fieldLink RX4 32 "DueWheels$State" "end" "I", Cond.fieldLink RX4 11 "DueWheels$State" "dues" "[[J", Cond.constantLong RX4 45 (-2000000005), Cond.methodLink RX6 49 yX1_keep, Cond.instanceMethod yX1_keep, Cond.selects RX1 yX1_keep yX1_keep, Cond.initialized RX1, Cond.code yX1_keep cX1_keep 2 none, Cond.fieldLink RX1 18 "DueWheels$Kept" "latest" "I", Cond.fieldLink RX1 11 "DueWheels$Kept" "ring" "[LDueWheels$State;", Cond.fieldLink RX1 26 "DueWheels$Kept" "size" "I", Cond.methodLink RX1 29 Lib.Math.min.name, Cond.static Lib.Math.min.name, Cond.initialized "java/lang/Math", Cond.code Lib.Math.min.name Lib.Math.min.code 2 (some .int)]
def wsX6_drop_r2 : List Cond := [Cond.methodLink RX1 22 yX4_copyOf, Cond.instanceMethod yX4_copyOf, Cond.selects RX4 yX4_copyOf yX4_copyOf, Cond.code yX4_copyOf cX4_copyOf 3 none, Cond.fieldLink RX4 19 "DueWheels$State" "time" "J", Cond.fieldLink RX4 23 "DueWheels$State" "places" "J", Cond.fieldLink RX4 26 "DueWheels$State" "goings" "J", Cond.fieldLink RX4 29 "DueWheels$State" "moves" "J", Cond.fieldLink RX4 36 "DueWheels$State" "rowSize" "I", Cond.methodLink RX4 39 arraycopyName, Cond.native arraycopyName, Cond.static arraycopyName, Cond.initialized "java/lang/System", Cond.fieldLink RX4 16 "DueWheels$State" "row" "[[J", Cond.methodLink RX6 78 yX4_tellDropped, Cond.instanceMethod yX4_tellDropped, Cond.selects RX4 yX4_tellDropped yX4_tellDropped, Cond.code yX4_tellDropped cX4_tellDropped 3 none, Cond.methodLink RX4 66 Lib.MathLoose.max_long.x, Cond.static Lib.MathLoose.max_long.x, Cond.code Lib.MathLoose.max_long.x Lib.MathLoose.max_long.code 4 (some .long), Cond.methodLink RX4 69 yX4_setTick, Cond.instanceMethod yX4_setTick, Cond.selects RX4 yX4_setTick yX4_setTick]
def wsX6_drop_r3 : List Cond := [Cond.code yX4_setTick cX4_setTick 4 none, Cond.constantLong RX4 58 (1125899906842624), Cond.methodLink RX4 60 Lib.MathLoose.min_long.x, Cond.static Lib.MathLoose.min_long.x, Cond.code Lib.MathLoose.min_long.x Lib.MathLoose.min_long.code 4 (some .long), Cond.methodLink RX6 82 yX4_close, Cond.instanceMethod yX4_close, Cond.selects RX4 yX4_close yX4_close, Cond.code yX4_close cX4_close 3 none, Cond.methodLink RX4 51 yX4_clear, Cond.instanceMethod yX4_clear, Cond.selects RX4 yX4_clear yX4_clear, Cond.code yX4_clear cX4_clear 3 none]
def wsX6_drop : List Cond := .code yX6_drop cX6_drop 4 (some .long) :: ((wsX6_drop_r1 ++ (wsX6_drop_r2 ++ wsX6_drop_r3)) ++ wsX60 ++ wsX40 ++ wsX10)
def wsX6_shift_r1 : List Cond := [Cond.fieldLink RX6 33 "DueWheels" "state" "LDueWheels$State;", Cond.constantLong RX6 85 (-1125899906842624), Cond.constantLong RX6 76 (1125899906842624), Cond.constantLong RX6 41 (-2000000001), Cond.fieldLink RX6 65 "DueWheels$State" "dues" "[[J", Cond.constantLong RX6 87 (-2000000005), Cond.constantLong RX6 89 (-2000000002), Cond.fieldLink RX6 10 "DueWheels" "kept" "LDueWheels$Kept;", Cond.methodLink RX6 91 Lib.MathLoose.max_long.x, Cond.static Lib.MathLoose.max_long.x, Cond.initialized "java/lang/Math", Cond.code Lib.MathLoose.max_long.x Lib.MathLoose.max_long.code 4 (some .long), Cond.methodLink RX6 69 yX4_isDue, Cond.instanceMethod yX4_isDue, Cond.selects RX4 yX4_isDue yX4_isDue, Cond.initialized RX4, Cond.code yX4_isDue cX4_isDue 2 (some .boolean), Cond.fieldLink RX4 32 "DueWheels$State" "end" "I", Cond.fieldLink RX4 11 "DueWheels$State" "dues" "[[J", Cond.constantLong RX4 45 (-2000000005), Cond.methodLink RX6 37 yX6_isTickAhead, Cond.instanceMethod yX6_isTickAhead, Cond.selects RX6 yX6_isTickAhead yX6_isTickAhead, Cond.initialized RX6]
def wsX6_shift_r2 : List Cond := [Cond.code yX6_isTickAhead cX6_isTickAhead 3 (some .boolean), Cond.fieldLink RX6 108 "DueWheels$State" "time" "J", Cond.methodLink RX6 49 yX1_keep, Cond.instanceMethod yX1_keep, Cond.selects RX1 yX1_keep yX1_keep, Cond.initialized RX1, Cond.code yX1_keep cX1_keep 2 none, Cond.fieldLink RX1 18 "DueWheels$Kept" "latest" "I", Cond.fieldLink RX1 11 "DueWheels$Kept" "ring" "[LDueWheels$State;", Cond.fieldLink RX1 26 "DueWheels$Kept" "size" "I", Cond.methodLink RX1 29 Lib.Math.min.name, Cond.static Lib.Math.min.name, Cond.code Lib.Math.min.name Lib.Math.min.code 2 (some .int), Cond.methodLink RX1 22 yX4_copyOf, Cond.instanceMethod yX4_copyOf, Cond.selects RX4 yX4_copyOf yX4_copyOf, Cond.code yX4_copyOf cX4_copyOf 3 none, Cond.fieldLink RX4 19 "DueWheels$State" "time" "J", Cond.fieldLink RX4 23 "DueWheels$State" "places" "J", Cond.fieldLink RX4 26 "DueWheels$State" "goings" "J", Cond.fieldLink RX4 29 "DueWheels$State" "moves" "J", Cond.fieldLink RX4 36 "DueWheels$State" "rowSize" "I", Cond.methodLink RX4 39 arraycopyName, Cond.native arraycopyName]
def wsX6_shift_r3 : List Cond := [Cond.static arraycopyName, Cond.initialized "java/lang/System", Cond.fieldLink RX4 16 "DueWheels$State" "row" "[[J", Cond.methodLink RX6 57 yX4_setTick, Cond.instanceMethod yX4_setTick, Cond.selects RX4 yX4_setTick yX4_setTick, Cond.code yX4_setTick cX4_setTick 4 none, Cond.constantLong RX4 58 (1125899906842624), Cond.methodLink RX4 60 Lib.MathLoose.min_long.x, Cond.static Lib.MathLoose.min_long.x, Cond.code Lib.MathLoose.min_long.x Lib.MathLoose.min_long.code 4 (some .long), Cond.methodLink RX6 97 yX4_setPlace, Cond.instanceMethod yX4_setPlace, Cond.selects RX4 yX4_setPlace yX4_setPlace, Cond.code yX4_setPlace cX4_setPlace 2 none]
def wsX6_shift : List Cond := .code yX6_shift cX6_shift 8 (some .long) :: ((wsX6_shift_r1 ++ (wsX6_shift_r2 ++ wsX6_shift_r3)) ++ wsX60 ++ wsX40 ++ wsX10)
def wsX6_chain_r1 : List Cond := [Cond.fieldLink RX6 33 "DueWheels" "state" "LDueWheels$State;", Cond.constantLong RX6 41 (-2000000001), Cond.fieldLink RX6 65 "DueWheels$State" "dues" "[[J", Cond.constantLong RX6 87 (-2000000005), Cond.constantLong RX6 89 (-2000000002), Cond.constantLong RX6 104 (-2000000004), Cond.fieldLink RX6 10 "DueWheels" "kept" "LDueWheels$Kept;", Cond.methodLink RX6 69 yX4_isDue, Cond.instanceMethod yX4_isDue, Cond.selects RX4 yX4_isDue yX4_isDue, Cond.initialized RX4, Cond.code yX4_isDue cX4_isDue 2 (some .boolean), Cond.fieldLink RX4 32 "DueWheels$State" "end" "I", Cond.fieldLink RX4 11 "DueWheels$State" "dues" "[[J", Cond.constantLong RX4 45 (-2000000005), Cond.methodLink RX6 100 yX4_isBehind, Cond.instanceMethod yX4_isBehind, Cond.selects RX4 yX4_isBehind yX4_isBehind, Cond.code yX4_isBehind cX4_isBehind 6 (some .boolean), Cond.methodLink RX6 49 yX1_keep, Cond.instanceMethod yX1_keep, Cond.selects RX1 yX1_keep yX1_keep, Cond.initialized RX1, Cond.code yX1_keep cX1_keep 2 none]
def wsX6_chain_r2 : List Cond := [Cond.fieldLink RX1 18 "DueWheels$Kept" "latest" "I", Cond.fieldLink RX1 11 "DueWheels$Kept" "ring" "[LDueWheels$State;", Cond.fieldLink RX1 26 "DueWheels$Kept" "size" "I", Cond.methodLink RX1 29 Lib.Math.min.name, Cond.static Lib.Math.min.name, Cond.initialized "java/lang/Math", Cond.code Lib.Math.min.name Lib.Math.min.code 2 (some .int), Cond.methodLink RX1 22 yX4_copyOf, Cond.instanceMethod yX4_copyOf, Cond.selects RX4 yX4_copyOf yX4_copyOf, Cond.code yX4_copyOf cX4_copyOf 3 none, Cond.fieldLink RX4 19 "DueWheels$State" "time" "J", Cond.fieldLink RX4 23 "DueWheels$State" "places" "J", Cond.fieldLink RX4 26 "DueWheels$State" "goings" "J", Cond.fieldLink RX4 29 "DueWheels$State" "moves" "J", Cond.fieldLink RX4 36 "DueWheels$State" "rowSize" "I", Cond.methodLink RX4 39 arraycopyName, Cond.native arraycopyName, Cond.static arraycopyName, Cond.initialized "java/lang/System", Cond.fieldLink RX4 16 "DueWheels$State" "row" "[[J"]
def wsX6_chain : List Cond := .code yX6_chain cX6_chain 3 (some .long) :: ((wsX6_chain_r1 ++ wsX6_chain_r2) ++ wsX60 ++ wsX40 ++ wsX10)
def wsX6_rest_r1 : List Cond := [Cond.fieldLink RX6 33 "DueWheels" "state" "LDueWheels$State;", Cond.constantLong RX6 41 (-2000000001), Cond.fieldLink RX6 65 "DueWheels$State" "dues" "[[J", Cond.constantLong RX6 106 (4), Cond.constantLong RX6 87 (-2000000005), Cond.constantLong RX6 89 (-2000000002), Cond.fieldLink RX6 10 "DueWheels" "kept" "LDueWheels$Kept;", Cond.fieldLink RX6 108 "DueWheels$State" "time" "J", Cond.methodLink RX6 69 yX4_isDue, Cond.instanceMethod yX4_isDue, Cond.selects RX4 yX4_isDue yX4_isDue, Cond.initialized RX4, Cond.code yX4_isDue cX4_isDue 2 (some .boolean), Cond.fieldLink RX4 32 "DueWheels$State" "end" "I", Cond.fieldLink RX4 11 "DueWheels$State" "dues" "[[J", Cond.constantLong RX4 45 (-2000000005), Cond.methodLink RX6 49 yX1_keep, Cond.instanceMethod yX1_keep, Cond.selects RX1 yX1_keep yX1_keep, Cond.initialized RX1, Cond.code yX1_keep cX1_keep 2 none, Cond.fieldLink RX1 18 "DueWheels$Kept" "latest" "I", Cond.fieldLink RX1 11 "DueWheels$Kept" "ring" "[LDueWheels$State;", Cond.fieldLink RX1 26 "DueWheels$Kept" "size" "I"]
def wsX6_rest_r2 : List Cond := [Cond.methodLink RX1 29 Lib.Math.min.name, Cond.static Lib.Math.min.name, Cond.initialized "java/lang/Math", Cond.code Lib.Math.min.name Lib.Math.min.code 2 (some .int), Cond.methodLink RX1 22 yX4_copyOf, Cond.instanceMethod yX4_copyOf, Cond.selects RX4 yX4_copyOf yX4_copyOf, Cond.code yX4_copyOf cX4_copyOf 3 none, Cond.fieldLink RX4 19 "DueWheels$State" "time" "J", Cond.fieldLink RX4 23 "DueWheels$State" "places" "J", Cond.fieldLink RX4 26 "DueWheels$State" "goings" "J", Cond.fieldLink RX4 29 "DueWheels$State" "moves" "J", Cond.fieldLink RX4 36 "DueWheels$State" "rowSize" "I", Cond.methodLink RX4 39 arraycopyName, Cond.native arraycopyName, Cond.static arraycopyName, Cond.initialized "java/lang/System", Cond.fieldLink RX4 16 "DueWheels$State" "row" "[[J"]
def wsX6_rest : List Cond := .code yX6_rest cX6_rest 4 (some .long) :: ((wsX6_rest_r1 ++ wsX6_rest_r2) ++ wsX60 ++ wsX40 ++ wsX10)
def wsX6_wake_r1 : List Cond := [Cond.fieldLink RX6 33 "DueWheels" "state" "LDueWheels$State;", Cond.constantLong RX6 41 (-2000000001), Cond.fieldLink RX6 65 "DueWheels$State" "dues" "[[J", Cond.constantLong RX6 87 (-2000000005), Cond.constantLong RX6 89 (-2000000002), Cond.fieldLink RX6 10 "DueWheels" "kept" "LDueWheels$Kept;", Cond.fieldLink RX6 108 "DueWheels$State" "time" "J", Cond.methodLink RX6 69 yX4_isDue, Cond.instanceMethod yX4_isDue, Cond.selects RX4 yX4_isDue yX4_isDue, Cond.initialized RX4, Cond.code yX4_isDue cX4_isDue 2 (some .boolean), Cond.fieldLink RX4 32 "DueWheels$State" "end" "I", Cond.fieldLink RX4 11 "DueWheels$State" "dues" "[[J", Cond.constantLong RX4 45 (-2000000005), Cond.methodLink RX6 49 yX1_keep, Cond.instanceMethod yX1_keep, Cond.selects RX1 yX1_keep yX1_keep, Cond.initialized RX1, Cond.code yX1_keep cX1_keep 2 none, Cond.fieldLink RX1 18 "DueWheels$Kept" "latest" "I", Cond.fieldLink RX1 11 "DueWheels$Kept" "ring" "[LDueWheels$State;", Cond.fieldLink RX1 26 "DueWheels$Kept" "size" "I", Cond.methodLink RX1 29 Lib.Math.min.name]
def wsX6_wake_r2 : List Cond := [Cond.static Lib.Math.min.name, Cond.initialized "java/lang/Math", Cond.code Lib.Math.min.name Lib.Math.min.code 2 (some .int), Cond.methodLink RX1 22 yX4_copyOf, Cond.instanceMethod yX4_copyOf, Cond.selects RX4 yX4_copyOf yX4_copyOf, Cond.code yX4_copyOf cX4_copyOf 3 none, Cond.fieldLink RX4 19 "DueWheels$State" "time" "J", Cond.fieldLink RX4 23 "DueWheels$State" "places" "J", Cond.fieldLink RX4 26 "DueWheels$State" "goings" "J", Cond.fieldLink RX4 29 "DueWheels$State" "moves" "J", Cond.fieldLink RX4 36 "DueWheels$State" "rowSize" "I", Cond.methodLink RX4 39 arraycopyName, Cond.native arraycopyName, Cond.static arraycopyName, Cond.initialized "java/lang/System", Cond.fieldLink RX4 16 "DueWheels$State" "row" "[[J", Cond.methodLink RX6 57 yX4_setTick, Cond.instanceMethod yX4_setTick, Cond.selects RX4 yX4_setTick yX4_setTick, Cond.code yX4_setTick cX4_setTick 4 none, Cond.constantLong RX4 58 (1125899906842624), Cond.methodLink RX4 60 Lib.MathLoose.min_long.x, Cond.static Lib.MathLoose.min_long.x]
def wsX6_wake_r3 : List Cond := [Cond.code Lib.MathLoose.min_long.x Lib.MathLoose.min_long.code 4 (some .long), Cond.methodLink RX6 97 yX4_setPlace, Cond.instanceMethod yX4_setPlace, Cond.selects RX4 yX4_setPlace yX4_setPlace, Cond.code yX4_setPlace cX4_setPlace 2 none]
def wsX6_wake : List Cond := .code yX6_wake cX6_wake 4 (some .long) :: ((wsX6_wake_r1 ++ (wsX6_wake_r2 ++ wsX6_wake_r3)) ++ wsX60 ++ wsX40 ++ wsX10)
def wsX6_about : List Cond := .code yX6_about cX6_about 3 (some .long) :: ([.fieldLink RX6 33 "DueWheels" "state" "LDueWheels$State;", .constantLong RX6 41 (-2000000001), .fieldLink RX6 65 "DueWheels$State" "dues" "[[J", .methodLink RX6 69 yX4_isDue, .instanceMethod yX4_isDue, .selects RX4 yX4_isDue yX4_isDue, .initialized RX4, .code yX4_isDue cX4_isDue 2 (some .boolean), .fieldLink RX4 32 "DueWheels$State" "end" "I", .fieldLink RX4 11 "DueWheels$State" "dues" "[[J", .constantLong RX4 45 (-2000000005)] ++ wsX60 ++ wsX40)
def wsX6_isOf : List Cond := .code yX6_isOf cX6_isOf 5 (some .long) :: ([.fieldLink RX6 33 "DueWheels" "state" "LDueWheels$State;", .constantLong RX6 41 (-2000000001), .fieldLink RX6 65 "DueWheels$State" "dues" "[[J", .constantLong RX6 106 (4), .methodLink RX6 69 yX4_isDue, .instanceMethod yX4_isDue, .selects RX4 yX4_isDue yX4_isDue, .initialized RX4, .code yX4_isDue cX4_isDue 2 (some .boolean), .fieldLink RX4 32 "DueWheels$State" "end" "I", .fieldLink RX4 11 "DueWheels$State" "dues" "[[J", .constantLong RX4 45 (-2000000005)] ++ wsX60 ++ wsX40)
def wsX6_go_r1 : List Cond := [Cond.fieldLink RX6 33 "DueWheels" "state" "LDueWheels$State;", Cond.fieldLink RX6 108 "DueWheels$State" "time" "J", Cond.constantLong RX6 112 (1125899906842623), Cond.constantLong RX6 41 (-2000000001), Cond.fieldLink RX6 10 "DueWheels" "kept" "LDueWheels$Kept;", Cond.fieldLink RX6 19 "DueWheels" "going" "LDueWheels$Going;", Cond.methodLink RX6 49 yX1_keep, Cond.instanceMethod yX1_keep, Cond.selects RX1 yX1_keep yX1_keep, Cond.initialized RX1, Cond.code yX1_keep cX1_keep 2 none, Cond.fieldLink RX1 18 "DueWheels$Kept" "latest" "I", Cond.fieldLink RX1 11 "DueWheels$Kept" "ring" "[LDueWheels$State;", Cond.fieldLink RX1 26 "DueWheels$Kept" "size" "I", Cond.methodLink RX1 29 Lib.Math.min.name, Cond.static Lib.Math.min.name, Cond.initialized "java/lang/Math", Cond.code Lib.Math.min.name Lib.Math.min.code 2 (some .int), Cond.methodLink RX1 22 yX4_copyOf, Cond.instanceMethod yX4_copyOf, Cond.selects RX4 yX4_copyOf yX4_copyOf, Cond.initialized RX4, Cond.code yX4_copyOf cX4_copyOf 3 none, Cond.fieldLink RX4 19 "DueWheels$State" "time" "J"]
def wsX6_go_r2 : List Cond := [Cond.fieldLink RX4 23 "DueWheels$State" "places" "J", Cond.fieldLink RX4 26 "DueWheels$State" "goings" "J", Cond.fieldLink RX4 29 "DueWheels$State" "moves" "J", Cond.fieldLink RX4 32 "DueWheels$State" "end" "I", Cond.fieldLink RX4 36 "DueWheels$State" "rowSize" "I", Cond.fieldLink RX4 11 "DueWheels$State" "dues" "[[J", Cond.methodLink RX4 39 arraycopyName, Cond.native arraycopyName, Cond.static arraycopyName, Cond.initialized "java/lang/System", Cond.fieldLink RX4 16 "DueWheels$State" "row" "[[J", Cond.methodLink RX6 114 yX0_goOn, Cond.instanceMethod yX0_goOn, Cond.selects RX0 yX0_goOn yX0_goOn, Cond.initialized RX0, Cond.code yX0_goOn cX0_goOn 6 none, Cond.fieldLink RX0 18 "DueWheels$State" "rowSize" "I", Cond.methodLink RX0 24 yX0_passTick, Cond.instanceMethod yX0_passTick, Cond.selects RX0 yX0_passTick yX0_passTick, Cond.code yX0_passTick cX0_passTick 7 (some .boolean), Cond.constantLong RX0 32 (-2000000005), Cond.fieldLink RX0 12 "DueWheels$Going" "line" "LDueWheels$Line;", Cond.fieldLink RX0 41 "DueWheels$Line" "size" "I"]
def wsX6_go_r3 : List Cond := [Cond.fieldLink RX0 44 "DueWheels$Line" "dues" "[I", Cond.methodLink RX0 28 yX4_leastTick, Cond.instanceMethod yX4_leastTick, Cond.selects RX4 yX4_leastTick yX4_leastTick, Cond.code yX4_leastTick cX4_leastTick 6 (some .long), Cond.constantLong RX4 58 (1125899906842624), Cond.constantLong RX4 45 (-2000000005), Cond.methodLink RX0 34 yX0_moveTime, Cond.instanceMethod yX0_moveTime, Cond.selects RX0 yX0_moveTime yX0_moveTime, Cond.code yX0_moveTime cX0_moveTime 8 none, Cond.fieldLink RX0 52 "DueWheels$State" "time" "J", Cond.fieldLink RX0 56 "DueWheels$State" "end" "I", Cond.fieldLink RX0 59 "DueWheels$State" "dues" "[[J", Cond.fieldLink RX0 68 "DueWheels$State" "moves" "J", Cond.methodLink RX0 62 yX5_movesDown, Cond.static yX5_movesDown, Cond.initialized RX5, Cond.code yX5_movesDown cX5_movesDown 12 (some .int), Cond.methodLink RX5 11 yX5_wheelOf, Cond.static yX5_wheelOf, Cond.code yX5_wheelOf cX5_wheelOf 6 (some .int), Cond.methodLink RX0 38 yX0_findGoers, Cond.instanceMethod yX0_findGoers]
def wsX6_go_r4 : List Cond := [Cond.selects RX0 yX0_findGoers yX0_findGoers, Cond.code yX0_findGoers cX0_findGoers 6 none, Cond.methodLink RX0 71 yX0_isFast, Cond.instanceMethod yX0_isFast, Cond.selects RX0 yX0_isFast yX0_isFast, Cond.code yX0_isFast cX0_isFast 5 (some .boolean), Cond.constantLong RX0 86 (2), Cond.methodLink RX0 74 yX0_isLooseFrom, Cond.instanceMethod yX0_isLooseFrom, Cond.selects RX0 yX0_isLooseFrom yX0_isLooseFrom, Cond.code yX0_isLooseFrom cX0_isLooseFrom 5 (some .boolean), Cond.methodLink RX0 78 yX0_rankOf, Cond.instanceMethod yX0_rankOf, Cond.selects RX0 yX0_rankOf yX0_rankOf, Cond.code yX0_rankOf cX0_rankOf 3 (some .long), Cond.constantLong RX0 88 (5), Cond.methodLink RX0 82 yX2_add, Cond.instanceMethod yX2_add, Cond.selects RX2 yX2_add yX2_add, Cond.initialized RX2, Cond.code yX2_add cX2_add 7 none, Cond.fieldLink RX2 22 "DueWheels$Line" "size" "I", Cond.fieldLink RX2 9 "DueWheels$Line" "dues" "[I", Cond.fieldLink RX2 15 "DueWheels$Line" "firstKeys" "[J"]
def wsX6_go_r5 : List Cond := [Cond.fieldLink RX2 19 "DueWheels$Line" "secondKeys" "[J", Cond.methodLink RX2 26 yX2_isAhead, Cond.instanceMethod yX2_isAhead, Cond.selects RX2 yX2_isAhead yX2_isAhead, Cond.code yX2_isAhead cX2_isAhead 6 (some .boolean), Cond.methodLink RX0 48 yX0_letGo, Cond.instanceMethod yX0_letGo, Cond.selects RX0 yX0_letGo yX0_letGo, Cond.code yX0_letGo cX0_letGo 3 none, Cond.fieldLink RX0 90 "DueWheels$State" "row" "[[J", Cond.fieldLink RX0 93 "DueWheels$State" "goings" "J", Cond.methodLink RX0 96 yX4_tellGone, Cond.instanceMethod yX4_tellGone, Cond.selects RX4 yX4_tellGone yX4_tellGone, Cond.code yX4_tellGone cX4_tellGone 3 none, Cond.methodLink RX4 69 yX4_setTick, Cond.instanceMethod yX4_setTick, Cond.selects RX4 yX4_setTick yX4_setTick, Cond.code yX4_setTick cX4_setTick 4 none, Cond.methodLink RX4 60 Lib.MathLoose.min_long.x, Cond.static Lib.MathLoose.min_long.x, Cond.code Lib.MathLoose.min_long.x Lib.MathLoose.min_long.code 4 (some .long), Cond.methodLink RX0 100 yX0_goesAgain, Cond.instanceMethod yX0_goesAgain]
def wsX6_go_r6 : List Cond := [Cond.selects RX0 yX0_goesAgain yX0_goesAgain, Cond.code yX0_goesAgain cX0_goesAgain 5 (some .boolean), Cond.constantLong RX0 110 (1125899906842624), Cond.methodLink RX0 104 yX0_setAgain, Cond.instanceMethod yX0_setAgain, Cond.selects RX0 yX0_setAgain yX0_setAgain, Cond.code yX0_setAgain cX0_setAgain 5 none, Cond.methodLink RX0 112 yX4_setTick, Cond.methodLink RX0 107 yX4_close, Cond.instanceMethod yX4_close, Cond.selects RX4 yX4_close yX4_close, Cond.code yX4_close cX4_close 3 none, Cond.methodLink RX4 51 yX4_clear, Cond.instanceMethod yX4_clear, Cond.selects RX4 yX4_clear yX4_clear, Cond.code yX4_clear cX4_clear 3 none]
def wsX6_go : List Cond := .code yX6_go cX6_go 3 (some .long) :: ((wsX6_go_r1 ++ (wsX6_go_r2 ++ (wsX6_go_r3 ++ (wsX6_go_r4 ++ (wsX6_go_r5 ++ wsX6_go_r6))))) ++ wsX60 ++ wsX40 ++ wsX10 ++ wsX00 ++ wsX20)
def wsX6_went : List Cond := .code yX6_went cX6_went 3 (some .long) :: ([.constantLong RX6 41 (-2000000001), .fieldLink RX6 33 "DueWheels" "state" "LDueWheels$State;", .fieldLink RX6 118 "DueWheels$State" "rowSize" "I", .fieldLink RX6 122 "DueWheels$State" "row" "[[J", .constantLong RX6 87 (-2000000005)] ++ wsX60 ++ wsX40)
def wsX6_next : List Cond := .code yX6_next cX6_next 1 (some .long) :: ([.fieldLink RX6 33 "DueWheels" "state" "LDueWheels$State;", .methodLink RX6 125 yX4_leastTick, .instanceMethod yX4_leastTick, .selects RX4 yX4_leastTick yX4_leastTick, .initialized RX4, .code yX4_leastTick cX4_leastTick 6 (some .long), .constantLong RX4 58 (1125899906842624), .fieldLink RX4 32 "DueWheels$State" "end" "I", .fieldLink RX4 11 "DueWheels$State" "dues" "[[J", .constantLong RX4 45 (-2000000005)] ++ wsX60 ++ wsX40)
def wsX6_fewest_r1 : List Cond := [Cond.fieldLink RX6 26 "DueWheels" "settling" "LDueWheels$Settling;", Cond.fieldLink RX6 33 "DueWheels" "state" "LDueWheels$State;", Cond.methodLink RX6 129 yX3_plan, Cond.instanceMethod yX3_plan, Cond.selects RX3 yX3_plan yX3_plan, Cond.initialized RX3, Cond.code yX3_plan cX3_plan 9 (some .int), Cond.fieldLink RX3 12 "DueWheels$Settling" "line" "LDueWheels$Line;", Cond.fieldLink RX3 32 "DueWheels$Line" "size" "I", Cond.fieldLink RX3 36 "DueWheels$Line" "dues" "[I", Cond.fieldLink RX3 40 "DueWheels$State" "dues" "[[J", Cond.fieldLink RX3 45 "DueWheels$State" "time" "J", Cond.methodLink RX3 49 Lib.MathLoose.max_long.x, Cond.static Lib.MathLoose.max_long.x, Cond.initialized "java/lang/Math", Cond.code Lib.MathLoose.max_long.x Lib.MathLoose.max_long.code 4 (some .long), Cond.constantLong RX3 58 (-2000000005), Cond.fieldLink RX3 18 "DueWheels$Settling" "settled" "[J", Cond.methodLink RX3 25 yX3_findFast, Cond.instanceMethod yX3_findFast, Cond.selects RX3 yX3_findFast yX3_findFast, Cond.code yX3_findFast cX3_findFast 3 none, Cond.fieldLink RX3 68 "DueWheels$Settling" "fastSize" "I", Cond.fieldLink RX3 71 "DueWheels$State" "end" "I"]
def wsX6_fewest_r2 : List Cond := [Cond.constantLong RX3 74 (2), Cond.methodLink RX3 60 yX3_addFast, Cond.instanceMethod yX3_addFast, Cond.selects RX3 yX3_addFast yX3_addFast, Cond.code yX3_addFast cX3_addFast 3 none, Cond.fieldLink RX3 22 "DueWheels$Settling" "fast" "[J", Cond.methodLink RX3 29 yX3_findLoose, Cond.instanceMethod yX3_findLoose, Cond.selects RX3 yX3_findLoose yX3_findLoose, Cond.code yX3_findLoose cX3_findLoose 3 none, Cond.methodLink RX3 76 yX2_add, Cond.instanceMethod yX2_add, Cond.selects RX2 yX2_add yX2_add, Cond.initialized RX2, Cond.code yX2_add cX2_add 7 none, Cond.fieldLink RX2 22 "DueWheels$Line" "size" "I", Cond.fieldLink RX2 9 "DueWheels$Line" "dues" "[I", Cond.fieldLink RX2 15 "DueWheels$Line" "firstKeys" "[J", Cond.fieldLink RX2 19 "DueWheels$Line" "secondKeys" "[J", Cond.methodLink RX2 26 yX2_isAhead, Cond.instanceMethod yX2_isAhead, Cond.selects RX2 yX2_isAhead yX2_isAhead, Cond.code yX2_isAhead cX2_isAhead 6 (some .boolean), Cond.methodLink RX3 55 yX3_leastFast]
def wsX6_fewest_r3 : List Cond := [Cond.instanceMethod yX3_leastFast, Cond.selects RX3 yX3_leastFast yX3_leastFast, Cond.code yX3_leastFast cX3_leastFast 8 (some .long)]
def wsX6_fewest : List Cond := .code yX6_fewest cX6_fewest 1 (some .long) :: ((wsX6_fewest_r1 ++ (wsX6_fewest_r2 ++ wsX6_fewest_r3)) ++ wsX60 ++ wsX30 ++ wsX20 ++ wsX40)
def wsX6_settle_r1 : List Cond := [Cond.fieldLink RX6 10 "DueWheels" "kept" "LDueWheels$Kept;", Cond.fieldLink RX6 33 "DueWheels" "state" "LDueWheels$State;", Cond.fieldLink RX6 26 "DueWheels" "settling" "LDueWheels$Settling;", Cond.methodLink RX6 49 yX1_keep, Cond.instanceMethod yX1_keep, Cond.selects RX1 yX1_keep yX1_keep, Cond.initialized RX1, Cond.code yX1_keep cX1_keep 2 none, Cond.fieldLink RX1 18 "DueWheels$Kept" "latest" "I", Cond.fieldLink RX1 11 "DueWheels$Kept" "ring" "[LDueWheels$State;", Cond.fieldLink RX1 26 "DueWheels$Kept" "size" "I", Cond.methodLink RX1 29 Lib.Math.min.name, Cond.static Lib.Math.min.name, Cond.initialized "java/lang/Math", Cond.code Lib.Math.min.name Lib.Math.min.code 2 (some .int), Cond.methodLink RX1 22 yX4_copyOf, Cond.instanceMethod yX4_copyOf, Cond.selects RX4 yX4_copyOf yX4_copyOf, Cond.initialized RX4, Cond.code yX4_copyOf cX4_copyOf 3 none, Cond.fieldLink RX4 19 "DueWheels$State" "time" "J", Cond.fieldLink RX4 23 "DueWheels$State" "places" "J", Cond.fieldLink RX4 26 "DueWheels$State" "goings" "J", Cond.fieldLink RX4 29 "DueWheels$State" "moves" "J"]
def wsX6_settle_r2 : List Cond := [Cond.fieldLink RX4 32 "DueWheels$State" "end" "I", Cond.fieldLink RX4 36 "DueWheels$State" "rowSize" "I", Cond.fieldLink RX4 11 "DueWheels$State" "dues" "[[J", Cond.methodLink RX4 39 arraycopyName, Cond.native arraycopyName, Cond.static arraycopyName, Cond.initialized "java/lang/System", Cond.fieldLink RX4 16 "DueWheels$State" "row" "[[J", Cond.methodLink RX6 129 yX3_plan, Cond.instanceMethod yX3_plan, Cond.selects RX3 yX3_plan yX3_plan, Cond.initialized RX3, Cond.code yX3_plan cX3_plan 9 (some .int), Cond.fieldLink RX3 12 "DueWheels$Settling" "line" "LDueWheels$Line;", Cond.fieldLink RX3 32 "DueWheels$Line" "size" "I", Cond.fieldLink RX3 36 "DueWheels$Line" "dues" "[I", Cond.fieldLink RX3 40 "DueWheels$State" "dues" "[[J", Cond.fieldLink RX3 45 "DueWheels$State" "time" "J", Cond.methodLink RX3 49 Lib.MathLoose.max_long.x, Cond.static Lib.MathLoose.max_long.x, Cond.code Lib.MathLoose.max_long.x Lib.MathLoose.max_long.code 4 (some .long), Cond.constantLong RX3 58 (-2000000005), Cond.fieldLink RX3 18 "DueWheels$Settling" "settled" "[J", Cond.methodLink RX3 25 yX3_findFast]
def wsX6_settle_r3 : List Cond := [Cond.instanceMethod yX3_findFast, Cond.selects RX3 yX3_findFast yX3_findFast, Cond.code yX3_findFast cX3_findFast 3 none, Cond.fieldLink RX3 68 "DueWheels$Settling" "fastSize" "I", Cond.fieldLink RX3 71 "DueWheels$State" "end" "I", Cond.constantLong RX3 74 (2), Cond.methodLink RX3 60 yX3_addFast, Cond.instanceMethod yX3_addFast, Cond.selects RX3 yX3_addFast yX3_addFast, Cond.code yX3_addFast cX3_addFast 3 none, Cond.fieldLink RX3 22 "DueWheels$Settling" "fast" "[J", Cond.methodLink RX3 29 yX3_findLoose, Cond.instanceMethod yX3_findLoose, Cond.selects RX3 yX3_findLoose yX3_findLoose, Cond.code yX3_findLoose cX3_findLoose 3 none, Cond.methodLink RX3 76 yX2_add, Cond.instanceMethod yX2_add, Cond.selects RX2 yX2_add yX2_add, Cond.initialized RX2, Cond.code yX2_add cX2_add 7 none, Cond.fieldLink RX2 22 "DueWheels$Line" "size" "I", Cond.fieldLink RX2 9 "DueWheels$Line" "dues" "[I", Cond.fieldLink RX2 15 "DueWheels$Line" "firstKeys" "[J", Cond.fieldLink RX2 19 "DueWheels$Line" "secondKeys" "[J"]
def wsX6_settle_r4 : List Cond := [Cond.methodLink RX2 26 yX2_isAhead, Cond.instanceMethod yX2_isAhead, Cond.selects RX2 yX2_isAhead yX2_isAhead, Cond.code yX2_isAhead cX2_isAhead 6 (some .boolean), Cond.methodLink RX3 55 yX3_leastFast, Cond.instanceMethod yX3_leastFast, Cond.selects RX3 yX3_leastFast yX3_leastFast, Cond.code yX3_leastFast cX3_leastFast 8 (some .long), Cond.methodLink RX6 133 yX3_carryOut, Cond.instanceMethod yX3_carryOut, Cond.selects RX3 yX3_carryOut yX3_carryOut, Cond.code yX3_carryOut cX3_carryOut 4 (some .int), Cond.methodLink RX3 64 yX4_setTick, Cond.instanceMethod yX4_setTick, Cond.selects RX4 yX4_setTick yX4_setTick, Cond.code yX4_setTick cX4_setTick 4 none, Cond.constantLong RX4 58 (1125899906842624), Cond.methodLink RX4 60 Lib.MathLoose.min_long.x, Cond.static Lib.MathLoose.min_long.x, Cond.code Lib.MathLoose.min_long.x Lib.MathLoose.min_long.code 4 (some .long)]
def wsX6_settle : List Cond := .code yX6_settle cX6_settle 1 (some .long) :: ((wsX6_settle_r1 ++ (wsX6_settle_r2 ++ (wsX6_settle_r3 ++ wsX6_settle_r4))) ++ wsX60 ++ wsX10 ++ wsX40 ++ wsX30 ++ wsX20)
def wsX6_lies : List Cond := .code yX6_lies cX6_lies 6 (some .long) :: ([.fieldLink RX6 33 "DueWheels" "state" "LDueWheels$State;", .constantLong RX6 41 (-2000000001), .fieldLink RX6 65 "DueWheels$State" "dues" "[[J", .constantLong RX6 87 (-2000000005), .fieldLink RX6 108 "DueWheels$State" "time" "J", .methodLink RX6 69 yX4_isDue, .instanceMethod yX4_isDue, .selects RX4 yX4_isDue yX4_isDue, .initialized RX4, .code yX4_isDue cX4_isDue 2 (some .boolean), .fieldLink RX4 32 "DueWheels$State" "end" "I", .fieldLink RX4 11 "DueWheels$State" "dues" "[[J", .constantLong RX4 45 (-2000000005), .methodLink RX6 136 yX5_wheelOf, .static yX5_wheelOf, .initialized RX5, .code yX5_wheelOf cX5_wheelOf 6 (some .int), .methodLink RX6 142 yX5_slotOf, .static yX5_slotOf, .code yX5_slotOf cX5_slotOf 3 (some .int), .constantLong RX5 9 (63)] ++ wsX60 ++ wsX40)
def wsX6_bits : List Cond := .code yX6_bits cX6_bits 7 (some .long) :: ([.constantLong RX6 41 (-2000000001), .fieldLink RX6 33 "DueWheels" "state" "LDueWheels$State;", .fieldLink RX6 146 "DueWheels$State" "end" "I", .fieldLink RX6 65 "DueWheels$State" "dues" "[[J", .constantLong RX6 87 (-2000000005), .fieldLink RX6 108 "DueWheels$State" "time" "J", .methodLink RX6 136 yX5_wheelOf, .static yX5_wheelOf, .initialized RX5, .code yX5_wheelOf cX5_wheelOf 6 (some .int), .methodLink RX6 142 yX5_slotOf, .static yX5_slotOf, .code yX5_slotOf cX5_slotOf 3 (some .int), .constantLong RX5 9 (63)] ++ wsX60 ++ wsX40)
def wsX6_many : List Cond := .code yX6_many cX6_many 6 (some .long) :: ([.constantLong RX6 41 (-2000000001), .fieldLink RX6 33 "DueWheels" "state" "LDueWheels$State;", .fieldLink RX6 146 "DueWheels$State" "end" "I", .methodLink RX6 149 yX5_isSlot, .static yX5_isSlot, .initialized RX5, .code yX5_isSlot cX5_isSlot 2 (some .boolean), .methodLink RX6 152 yX4_liesIn, .instanceMethod yX4_liesIn, .selects RX4 yX4_liesIn yX4_liesIn, .initialized RX4, .code yX4_liesIn cX4_liesIn 6 (some .boolean), .fieldLink RX4 11 "DueWheels$State" "dues" "[[J", .constantLong RX4 45 (-2000000005), .fieldLink RX4 19 "DueWheels$State" "time" "J", .methodLink RX4 73 yX5_wheelOf, .static yX5_wheelOf, .code yX5_wheelOf cX5_wheelOf 6 (some .int), .methodLink RX4 79 yX5_slotOf, .static yX5_slotOf, .code yX5_slotOf cX5_slotOf 3 (some .int), .constantLong RX5 9 (63)] ++ wsX60 ++ wsX40)
def wsX6_in : List Cond := .code yX6_in cX6_in 6 (some .long) :: ([.constantLong RX6 41 (-2000000001), .fieldLink RX6 33 "DueWheels" "state" "LDueWheels$State;", .fieldLink RX6 146 "DueWheels$State" "end" "I", .constantLong RX6 87 (-2000000005), .methodLink RX6 149 yX5_isSlot, .static yX5_isSlot, .initialized RX5, .code yX5_isSlot cX5_isSlot 2 (some .boolean), .methodLink RX6 152 yX4_liesIn, .instanceMethod yX4_liesIn, .selects RX4 yX4_liesIn yX4_liesIn, .initialized RX4, .code yX4_liesIn cX4_liesIn 6 (some .boolean), .fieldLink RX4 11 "DueWheels$State" "dues" "[[J", .constantLong RX4 45 (-2000000005), .fieldLink RX4 19 "DueWheels$State" "time" "J", .methodLink RX4 73 yX5_wheelOf, .static yX5_wheelOf, .code yX5_wheelOf cX5_wheelOf 6 (some .int), .methodLink RX4 79 yX5_slotOf, .static yX5_slotOf, .code yX5_slotOf cX5_slotOf 3 (some .int), .constantLong RX5 9 (63)] ++ wsX60 ++ wsX40)
def wsX6_now : List Cond := .code yX6_now cX6_now 1 (some .long) :: ([.fieldLink RX6 33 "DueWheels" "state" "LDueWheels$State;", .fieldLink RX6 108 "DueWheels$State" "time" "J"] ++ wsX60 ++ wsX40)
def wsX6_undo : List Cond := .code yX6_undo cX6_undo 1 (some .long) :: ([.fieldLink RX6 10 "DueWheels" "kept" "LDueWheels$Kept;", .fieldLink RX6 156 "DueWheels$Kept" "size" "I", .constantLong RX6 89 (-2000000002), .fieldLink RX6 33 "DueWheels" "state" "LDueWheels$State;", .methodLink RX6 159 yX1_takeBack, .instanceMethod yX1_takeBack, .selects RX1 yX1_takeBack yX1_takeBack, .initialized RX1, .code yX1_takeBack cX1_takeBack 3 (some (.object "DueWheels$State")), .fieldLink RX1 11 "DueWheels$Kept" "ring" "[LDueWheels$State;", .fieldLink RX1 18 "DueWheels$Kept" "latest" "I", .fieldLink RX1 26 "DueWheels$Kept" "size" "I"] ++ wsX60 ++ wsX10)
def wsX6_count : List Cond := .code yX6_count cX6_count 2 (some .long) :: ([.fieldLink RX6 33 "DueWheels" "state" "LDueWheels$State;", .fieldLink RX6 118 "DueWheels$State" "rowSize" "I", .fieldLink RX6 167 "DueWheels$State" "goings" "J", .fieldLink RX6 170 "DueWheels$State" "moves" "J", .fieldLink RX6 10 "DueWheels" "kept" "LDueWheels$Kept;", .fieldLink RX6 156 "DueWheels$Kept" "size" "I", .constantLong RX6 41 (-2000000001), .methodLink RX6 163 yX4_duesWith, .instanceMethod yX4_duesWith, .selects RX4 yX4_duesWith yX4_duesWith, .initialized RX4, .code yX4_duesWith cX4_duesWith 5 (some .long), .fieldLink RX4 32 "DueWheels$State" "end" "I", .fieldLink RX4 11 "DueWheels$State" "dues" "[[J", .constantLong RX4 45 (-2000000005)] ++ wsX60 ++ wsX40 ++ wsX10)
def wsX7_init : List Cond := .code yX7_init cX7_init 1 none :: ([.methodLink RX7 1 objectInit, .instanceMethod objectInit, .code objectInit ⟨#[0xb1]⟩ 1 none, .arrayClass .long, .fieldLink RX7 7 "DueWheelsModel" "s" "[J", .fieldLink RX7 13 "DueWheelsModel" "before" "[J", .arrayClass .int, .fieldLink RX7 16 "DueWheelsModel" "goers" "[I", .fieldLink RX7 20 "DueWheelsModel" "loose" "[I", .fieldLink RX7 23 "DueWheelsModel" "ticks" "[J", .arrayClass .boolean, .fieldLink RX7 26 "DueWheelsModel" "isFast" "[Z", .fieldLink RX7 30 "DueWheelsModel" "kept" "I"] ++ wsX70)
def wsX7_isIn : List Cond := .code yX7_isIn cX7_isIn 6 (some .boolean) :: ([])
def wsX7_get : List Cond := .code yX7_get cX7_get 3 (some .long) :: ([.fieldLink RX7 7 "DueWheelsModel" "s" "[J"] ++ wsX70)
def wsX7_put : List Cond := .code yX7_put cX7_put 5 none :: ([.fieldLink RX7 7 "DueWheelsModel" "s" "[J"] ++ wsX70)
def wsX7_isDue : List Cond := .code yX7_isDue cX7_isDue 2 (some .boolean) :: ([.constantLong RX7 34 (199), .methodLink RX7 36 yX7_isIn, .static yX7_isIn, .initialized RX7, .code yX7_isIn cX7_isIn 6 (some .boolean), .methodLink RX7 40 yX7_get, .instanceMethod yX7_get, .selects RX7 yX7_get yX7_get, .code yX7_get cX7_get 3 (some .long), .fieldLink RX7 7 "DueWheelsModel" "s" "[J"] ++ wsX70)
def wsX7_hasTick : List Cond := .code yX7_hasTick cX7_hasTick 2 (some .boolean) :: ([.constantLong RX7 48 (-2000000005), .methodLink RX7 44 yX7_isDue, .instanceMethod yX7_isDue, .selects RX7 yX7_isDue yX7_isDue, .initialized RX7, .code yX7_isDue cX7_isDue 2 (some .boolean), .constantLong RX7 34 (199), .methodLink RX7 36 yX7_isIn, .static yX7_isIn, .code yX7_isIn cX7_isIn 6 (some .boolean), .methodLink RX7 40 yX7_get, .instanceMethod yX7_get, .selects RX7 yX7_get yX7_get, .code yX7_get cX7_get 3 (some .long), .fieldLink RX7 7 "DueWheelsModel" "s" "[J"] ++ wsX70)
def wsX7_waits : List Cond := .code yX7_waits cX7_waits 2 (some .boolean) :: ([.constantLong RX7 48 (-2000000005), .methodLink RX7 44 yX7_isDue, .instanceMethod yX7_isDue, .selects RX7 yX7_isDue yX7_isDue, .initialized RX7, .code yX7_isDue cX7_isDue 2 (some .boolean), .constantLong RX7 34 (199), .methodLink RX7 36 yX7_isIn, .static yX7_isIn, .code yX7_isIn cX7_isIn 6 (some .boolean), .methodLink RX7 40 yX7_get, .instanceMethod yX7_get, .selects RX7 yX7_get yX7_get, .code yX7_get cX7_get 3 (some .long), .fieldLink RX7 7 "DueWheelsModel" "s" "[J"] ++ wsX70)
def wsX7_rests : List Cond := .code yX7_rests cX7_rests 2 (some .boolean) :: ([.constantLong RX7 48 (-2000000005), .methodLink RX7 44 yX7_isDue, .instanceMethod yX7_isDue, .selects RX7 yX7_isDue yX7_isDue, .initialized RX7, .code yX7_isDue cX7_isDue 2 (some .boolean), .constantLong RX7 34 (199), .methodLink RX7 36 yX7_isIn, .static yX7_isIn, .code yX7_isIn cX7_isIn 6 (some .boolean), .methodLink RX7 40 yX7_get, .instanceMethod yX7_get, .selects RX7 yX7_get yX7_get, .code yX7_get cX7_get 3 (some .long), .fieldLink RX7 7 "DueWheelsModel" "s" "[J"] ++ wsX70)
def wsX7_keep : List Cond := .code yX7_keep cX7_keep 2 none :: ([.fieldLink RX7 30 "DueWheelsModel" "kept" "I", .fieldLink RX7 13 "DueWheelsModel" "before" "[J", .fieldLink RX7 7 "DueWheelsModel" "s" "[J"] ++ wsX70)
def wsX7_undo : List Cond := .code yX7_undo cX7_undo 2 (some .long) :: ([.fieldLink RX7 30 "DueWheelsModel" "kept" "I", .constantLong RX7 50 (-2000000002), .fieldLink RX7 7 "DueWheelsModel" "s" "[J", .fieldLink RX7 13 "DueWheelsModel" "before" "[J"] ++ wsX70)
def wsX7_freeOne : List Cond := .code yX7_freeOne cX7_freeOne 2 (some .int) :: ([.methodLink RX7 40 yX7_get, .instanceMethod yX7_get, .selects RX7 yX7_get yX7_get, .initialized RX7, .code yX7_get cX7_get 3 (some .long), .fieldLink RX7 7 "DueWheelsModel" "s" "[J"] ++ wsX70)
def wsX7_line : List Cond := .code yX7_line cX7_line 2 none :: ([.fieldLink RX7 7 "DueWheelsModel" "s" "[J", .methodLink RX7 52 yX7_put, .instanceMethod yX7_put, .selects RX7 yX7_put yX7_put, .initialized RX7, .code yX7_put cX7_put 5 none] ++ wsX70)
def wsX7_tick : List Cond := .code yX7_tick cX7_tick 4 none :: ([.methodLink RX7 52 yX7_put, .instanceMethod yX7_put, .selects RX7 yX7_put yX7_put, .initialized RX7, .code yX7_put cX7_put 5 none, .fieldLink RX7 7 "DueWheelsModel" "s" "[J"] ++ wsX70)
def wsX7_set_r1 : List Cond := [Cond.constantLong RX7 48 (-2000000005), Cond.methodLink RX7 56 yX7_freeOne, Cond.instanceMethod yX7_freeOne, Cond.selects RX7 yX7_freeOne yX7_freeOne, Cond.initialized RX7, Cond.code yX7_freeOne cX7_freeOne 2 (some .int), Cond.methodLink RX7 40 yX7_get, Cond.instanceMethod yX7_get, Cond.selects RX7 yX7_get yX7_get, Cond.code yX7_get cX7_get 3 (some .long), Cond.fieldLink RX7 7 "DueWheelsModel" "s" "[J", Cond.methodLink RX7 60 yX7_keep, Cond.instanceMethod yX7_keep, Cond.selects RX7 yX7_keep yX7_keep, Cond.code yX7_keep cX7_keep 2 none, Cond.fieldLink RX7 30 "DueWheelsModel" "kept" "I", Cond.fieldLink RX7 13 "DueWheelsModel" "before" "[J", Cond.methodLink RX7 52 yX7_put, Cond.instanceMethod yX7_put, Cond.selects RX7 yX7_put yX7_put, Cond.code yX7_put cX7_put 5 none, Cond.methodLink RX7 63 yX7_line, Cond.instanceMethod yX7_line, Cond.selects RX7 yX7_line yX7_line]
def wsX7_set_r2 : List Cond := [Cond.code yX7_line cX7_line 2 none]
def wsX7_set : List Cond := .code yX7_set cX7_set 4 (some .int) :: ((wsX7_set_r1 ++ wsX7_set_r2) ++ wsX70)
def wsX7_isTick : List Cond := .code yX7_isTick cX7_isTick 3 (some .boolean) :: ([.fieldLink RX7 7 "DueWheelsModel" "s" "[J", .constantLong RX7 67 (1125899906842624)] ++ wsX70)
def wsX7_once_r1 : List Cond := [Cond.constantLong RX7 73 (-2000000001), Cond.constantLong RX7 75 (-2000000003), Cond.methodLink RX7 69 yX7_isTick, Cond.instanceMethod yX7_isTick, Cond.selects RX7 yX7_isTick yX7_isTick, Cond.initialized RX7, Cond.code yX7_isTick cX7_isTick 3 (some .boolean), Cond.fieldLink RX7 7 "DueWheelsModel" "s" "[J", Cond.constantLong RX7 67 (1125899906842624), Cond.methodLink RX7 56 yX7_freeOne, Cond.instanceMethod yX7_freeOne, Cond.selects RX7 yX7_freeOne yX7_freeOne, Cond.code yX7_freeOne cX7_freeOne 2 (some .int), Cond.methodLink RX7 40 yX7_get, Cond.instanceMethod yX7_get, Cond.selects RX7 yX7_get yX7_get, Cond.code yX7_get cX7_get 3 (some .long), Cond.methodLink RX7 77 yX7_set, Cond.instanceMethod yX7_set, Cond.selects RX7 yX7_set yX7_set, Cond.code yX7_set cX7_set 4 (some .int), Cond.constantLong RX7 48 (-2000000005), Cond.methodLink RX7 60 yX7_keep, Cond.instanceMethod yX7_keep]
def wsX7_once_r2 : List Cond := [Cond.selects RX7 yX7_keep yX7_keep, Cond.code yX7_keep cX7_keep 2 none, Cond.fieldLink RX7 30 "DueWheelsModel" "kept" "I", Cond.fieldLink RX7 13 "DueWheelsModel" "before" "[J", Cond.methodLink RX7 52 yX7_put, Cond.instanceMethod yX7_put, Cond.selects RX7 yX7_put yX7_put, Cond.code yX7_put cX7_put 5 none, Cond.methodLink RX7 63 yX7_line, Cond.instanceMethod yX7_line, Cond.selects RX7 yX7_line yX7_line, Cond.code yX7_line cX7_line 2 none, Cond.methodLink RX7 81 yX7_tick, Cond.instanceMethod yX7_tick, Cond.selects RX7 yX7_tick yX7_tick, Cond.code yX7_tick cX7_tick 4 none]
def wsX7_once : List Cond := .code yX7_once cX7_once 5 (some .long) :: ((wsX7_once_r1 ++ wsX7_once_r2) ++ wsX70)
def wsX7_repeated_r1 : List Cond := [Cond.constantLong RX7 67 (1125899906842624), Cond.constantLong RX7 85 (1000000), Cond.constantLong RX7 73 (-2000000001), Cond.constantLong RX7 75 (-2000000003), Cond.methodLink RX7 69 yX7_isTick, Cond.instanceMethod yX7_isTick, Cond.selects RX7 yX7_isTick yX7_isTick, Cond.initialized RX7, Cond.code yX7_isTick cX7_isTick 3 (some .boolean), Cond.fieldLink RX7 7 "DueWheelsModel" "s" "[J", Cond.methodLink RX7 36 yX7_isIn, Cond.static yX7_isIn, Cond.code yX7_isIn cX7_isIn 6 (some .boolean), Cond.methodLink RX7 56 yX7_freeOne, Cond.instanceMethod yX7_freeOne, Cond.selects RX7 yX7_freeOne yX7_freeOne, Cond.code yX7_freeOne cX7_freeOne 2 (some .int), Cond.methodLink RX7 40 yX7_get, Cond.instanceMethod yX7_get, Cond.selects RX7 yX7_get yX7_get, Cond.code yX7_get cX7_get 3 (some .long), Cond.methodLink RX7 77 yX7_set, Cond.instanceMethod yX7_set, Cond.selects RX7 yX7_set yX7_set]
def wsX7_repeated_r2 : List Cond := [Cond.code yX7_set cX7_set 4 (some .int), Cond.constantLong RX7 48 (-2000000005), Cond.methodLink RX7 60 yX7_keep, Cond.instanceMethod yX7_keep, Cond.selects RX7 yX7_keep yX7_keep, Cond.code yX7_keep cX7_keep 2 none, Cond.fieldLink RX7 30 "DueWheelsModel" "kept" "I", Cond.fieldLink RX7 13 "DueWheelsModel" "before" "[J", Cond.methodLink RX7 52 yX7_put, Cond.instanceMethod yX7_put, Cond.selects RX7 yX7_put yX7_put, Cond.code yX7_put cX7_put 5 none, Cond.methodLink RX7 63 yX7_line, Cond.instanceMethod yX7_line, Cond.selects RX7 yX7_line yX7_line, Cond.code yX7_line cX7_line 2 none, Cond.methodLink RX7 81 yX7_tick, Cond.instanceMethod yX7_tick, Cond.selects RX7 yX7_tick yX7_tick, Cond.code yX7_tick cX7_tick 4 none]
def wsX7_repeated : List Cond := .code yX7_repeated cX7_repeated 9 (some .long) :: ((wsX7_repeated_r1 ++ wsX7_repeated_r2) ++ wsX70)
def wsX7_often_r1 : List Cond := [Cond.methodLink RX7 87 yX7_repeated, Cond.instanceMethod yX7_repeated, Cond.selects RX7 yX7_repeated yX7_repeated, Cond.initialized RX7, Cond.code yX7_repeated cX7_repeated 9 (some .long), Cond.constantLong RX7 67 (1125899906842624), Cond.constantLong RX7 85 (1000000), Cond.constantLong RX7 73 (-2000000001), Cond.constantLong RX7 75 (-2000000003), Cond.methodLink RX7 69 yX7_isTick, Cond.instanceMethod yX7_isTick, Cond.selects RX7 yX7_isTick yX7_isTick, Cond.code yX7_isTick cX7_isTick 3 (some .boolean), Cond.fieldLink RX7 7 "DueWheelsModel" "s" "[J", Cond.methodLink RX7 36 yX7_isIn, Cond.static yX7_isIn, Cond.code yX7_isIn cX7_isIn 6 (some .boolean), Cond.methodLink RX7 56 yX7_freeOne, Cond.instanceMethod yX7_freeOne, Cond.selects RX7 yX7_freeOne yX7_freeOne, Cond.code yX7_freeOne cX7_freeOne 2 (some .int), Cond.methodLink RX7 40 yX7_get, Cond.instanceMethod yX7_get, Cond.selects RX7 yX7_get yX7_get]
def wsX7_often_r2 : List Cond := [Cond.code yX7_get cX7_get 3 (some .long), Cond.methodLink RX7 77 yX7_set, Cond.instanceMethod yX7_set, Cond.selects RX7 yX7_set yX7_set, Cond.code yX7_set cX7_set 4 (some .int), Cond.constantLong RX7 48 (-2000000005), Cond.methodLink RX7 60 yX7_keep, Cond.instanceMethod yX7_keep, Cond.selects RX7 yX7_keep yX7_keep, Cond.code yX7_keep cX7_keep 2 none, Cond.fieldLink RX7 30 "DueWheelsModel" "kept" "I", Cond.fieldLink RX7 13 "DueWheelsModel" "before" "[J", Cond.methodLink RX7 52 yX7_put, Cond.instanceMethod yX7_put, Cond.selects RX7 yX7_put yX7_put, Cond.code yX7_put cX7_put 5 none, Cond.methodLink RX7 63 yX7_line, Cond.instanceMethod yX7_line, Cond.selects RX7 yX7_line yX7_line, Cond.code yX7_line cX7_line 2 none, Cond.methodLink RX7 81 yX7_tick, Cond.instanceMethod yX7_tick, Cond.selects RX7 yX7_tick yX7_tick, Cond.code yX7_tick cX7_tick 4 none]
def wsX7_often : List Cond := .code yX7_often cX7_often 7 (some .long) :: ((wsX7_often_r1 ++ wsX7_often_r2) ++ wsX70)
def wsX7_resting_r1 : List Cond := [Cond.methodLink RX7 87 yX7_repeated, Cond.instanceMethod yX7_repeated, Cond.selects RX7 yX7_repeated yX7_repeated, Cond.initialized RX7, Cond.code yX7_repeated cX7_repeated 9 (some .long), Cond.constantLong RX7 67 (1125899906842624), Cond.constantLong RX7 85 (1000000), Cond.constantLong RX7 73 (-2000000001), Cond.constantLong RX7 75 (-2000000003), Cond.methodLink RX7 69 yX7_isTick, Cond.instanceMethod yX7_isTick, Cond.selects RX7 yX7_isTick yX7_isTick, Cond.code yX7_isTick cX7_isTick 3 (some .boolean), Cond.fieldLink RX7 7 "DueWheelsModel" "s" "[J", Cond.methodLink RX7 36 yX7_isIn, Cond.static yX7_isIn, Cond.code yX7_isIn cX7_isIn 6 (some .boolean), Cond.methodLink RX7 56 yX7_freeOne, Cond.instanceMethod yX7_freeOne, Cond.selects RX7 yX7_freeOne yX7_freeOne, Cond.code yX7_freeOne cX7_freeOne 2 (some .int), Cond.methodLink RX7 40 yX7_get, Cond.instanceMethod yX7_get, Cond.selects RX7 yX7_get yX7_get]
def wsX7_resting_r2 : List Cond := [Cond.code yX7_get cX7_get 3 (some .long), Cond.methodLink RX7 77 yX7_set, Cond.instanceMethod yX7_set, Cond.selects RX7 yX7_set yX7_set, Cond.code yX7_set cX7_set 4 (some .int), Cond.constantLong RX7 48 (-2000000005), Cond.methodLink RX7 60 yX7_keep, Cond.instanceMethod yX7_keep, Cond.selects RX7 yX7_keep yX7_keep, Cond.code yX7_keep cX7_keep 2 none, Cond.fieldLink RX7 30 "DueWheelsModel" "kept" "I", Cond.fieldLink RX7 13 "DueWheelsModel" "before" "[J", Cond.methodLink RX7 52 yX7_put, Cond.instanceMethod yX7_put, Cond.selects RX7 yX7_put yX7_put, Cond.code yX7_put cX7_put 5 none, Cond.methodLink RX7 63 yX7_line, Cond.instanceMethod yX7_line, Cond.selects RX7 yX7_line yX7_line, Cond.code yX7_line cX7_line 2 none, Cond.methodLink RX7 81 yX7_tick, Cond.instanceMethod yX7_tick, Cond.selects RX7 yX7_tick yX7_tick, Cond.code yX7_tick cX7_tick 4 none]
def wsX7_resting : List Cond := .code yX7_resting cX7_resting 7 (some .long) :: ((wsX7_resting_r1 ++ wsX7_resting_r2) ++ wsX70)
def wsX7_loose_r1 : List Cond := [Cond.constantLong RX7 73 (-2000000001), Cond.constantLong RX7 75 (-2000000003), Cond.methodLink RX7 69 yX7_isTick, Cond.instanceMethod yX7_isTick, Cond.selects RX7 yX7_isTick yX7_isTick, Cond.initialized RX7, Cond.code yX7_isTick cX7_isTick 3 (some .boolean), Cond.fieldLink RX7 7 "DueWheelsModel" "s" "[J", Cond.constantLong RX7 67 (1125899906842624), Cond.methodLink RX7 36 yX7_isIn, Cond.static yX7_isIn, Cond.code yX7_isIn cX7_isIn 6 (some .boolean), Cond.methodLink RX7 56 yX7_freeOne, Cond.instanceMethod yX7_freeOne, Cond.selects RX7 yX7_freeOne yX7_freeOne, Cond.code yX7_freeOne cX7_freeOne 2 (some .int), Cond.methodLink RX7 40 yX7_get, Cond.instanceMethod yX7_get, Cond.selects RX7 yX7_get yX7_get, Cond.code yX7_get cX7_get 3 (some .long), Cond.methodLink RX7 77 yX7_set, Cond.instanceMethod yX7_set, Cond.selects RX7 yX7_set yX7_set, Cond.code yX7_set cX7_set 4 (some .int)]
def wsX7_loose_r2 : List Cond := [Cond.constantLong RX7 48 (-2000000005), Cond.methodLink RX7 60 yX7_keep, Cond.instanceMethod yX7_keep, Cond.selects RX7 yX7_keep yX7_keep, Cond.code yX7_keep cX7_keep 2 none, Cond.fieldLink RX7 30 "DueWheelsModel" "kept" "I", Cond.fieldLink RX7 13 "DueWheelsModel" "before" "[J", Cond.methodLink RX7 52 yX7_put, Cond.instanceMethod yX7_put, Cond.selects RX7 yX7_put yX7_put, Cond.code yX7_put cX7_put 5 none, Cond.methodLink RX7 63 yX7_line, Cond.instanceMethod yX7_line, Cond.selects RX7 yX7_line yX7_line, Cond.code yX7_line cX7_line 2 none, Cond.methodLink RX7 81 yX7_tick, Cond.instanceMethod yX7_tick, Cond.selects RX7 yX7_tick yX7_tick, Cond.code yX7_tick cX7_tick 4 none]
def wsX7_loose : List Cond := .code yX7_loose cX7_loose 7 (some .long) :: ((wsX7_loose_r1 ++ wsX7_loose_r2) ++ wsX70)
def wsX7_chained_r1 : List Cond := [Cond.constantLong RX7 67 (1125899906842624), Cond.constantLong RX7 73 (-2000000001), Cond.constantLong RX7 75 (-2000000003), Cond.methodLink RX7 44 yX7_isDue, Cond.instanceMethod yX7_isDue, Cond.selects RX7 yX7_isDue yX7_isDue, Cond.initialized RX7, Cond.code yX7_isDue cX7_isDue 2 (some .boolean), Cond.constantLong RX7 34 (199), Cond.methodLink RX7 36 yX7_isIn, Cond.static yX7_isIn, Cond.code yX7_isIn cX7_isIn 6 (some .boolean), Cond.methodLink RX7 40 yX7_get, Cond.instanceMethod yX7_get, Cond.selects RX7 yX7_get yX7_get, Cond.code yX7_get cX7_get 3 (some .long), Cond.fieldLink RX7 7 "DueWheelsModel" "s" "[J", Cond.methodLink RX7 56 yX7_freeOne, Cond.instanceMethod yX7_freeOne, Cond.selects RX7 yX7_freeOne yX7_freeOne, Cond.code yX7_freeOne cX7_freeOne 2 (some .int), Cond.methodLink RX7 77 yX7_set, Cond.instanceMethod yX7_set, Cond.selects RX7 yX7_set yX7_set]
def wsX7_chained_r2 : List Cond := [Cond.code yX7_set cX7_set 4 (some .int), Cond.constantLong RX7 48 (-2000000005), Cond.methodLink RX7 60 yX7_keep, Cond.instanceMethod yX7_keep, Cond.selects RX7 yX7_keep yX7_keep, Cond.code yX7_keep cX7_keep 2 none, Cond.fieldLink RX7 30 "DueWheelsModel" "kept" "I", Cond.fieldLink RX7 13 "DueWheelsModel" "before" "[J", Cond.methodLink RX7 52 yX7_put, Cond.instanceMethod yX7_put, Cond.selects RX7 yX7_put yX7_put, Cond.code yX7_put cX7_put 5 none, Cond.methodLink RX7 63 yX7_line, Cond.instanceMethod yX7_line, Cond.selects RX7 yX7_line yX7_line, Cond.code yX7_line cX7_line 2 none]
def wsX7_chained : List Cond := .code yX7_chained cX7_chained 8 (some .long) :: ((wsX7_chained_r1 ++ wsX7_chained_r2) ++ wsX70)
def wsX7_drop_r1 : List Cond := [Cond.constantLong RX7 73 (-2000000001), Cond.constantLong RX7 48 (-2000000005), Cond.fieldLink RX7 7 "DueWheelsModel" "s" "[J", Cond.methodLink RX7 44 yX7_isDue, Cond.instanceMethod yX7_isDue, Cond.selects RX7 yX7_isDue yX7_isDue, Cond.initialized RX7, Cond.code yX7_isDue cX7_isDue 2 (some .boolean), Cond.constantLong RX7 34 (199), Cond.methodLink RX7 36 yX7_isIn, Cond.static yX7_isIn, Cond.code yX7_isIn cX7_isIn 6 (some .boolean), Cond.methodLink RX7 40 yX7_get, Cond.instanceMethod yX7_get, Cond.selects RX7 yX7_get yX7_get, Cond.code yX7_get cX7_get 3 (some .long), Cond.methodLink RX7 60 yX7_keep, Cond.instanceMethod yX7_keep, Cond.selects RX7 yX7_keep yX7_keep, Cond.code yX7_keep cX7_keep 2 none, Cond.fieldLink RX7 30 "DueWheelsModel" "kept" "I", Cond.fieldLink RX7 13 "DueWheelsModel" "before" "[J", Cond.methodLink RX7 52 yX7_put, Cond.instanceMethod yX7_put]
def wsX7_drop_r2 : List Cond := [Cond.selects RX7 yX7_put yX7_put, Cond.code yX7_put cX7_put 5 none, Cond.methodLink RX7 91 yX7_waits, Cond.instanceMethod yX7_waits, Cond.selects RX7 yX7_waits yX7_waits, Cond.code yX7_waits cX7_waits 2 (some .boolean), Cond.methodLink RX7 81 yX7_tick, Cond.instanceMethod yX7_tick, Cond.selects RX7 yX7_tick yX7_tick, Cond.code yX7_tick cX7_tick 4 none]
def wsX7_drop : List Cond := .code yX7_drop cX7_drop 7 (some .long) :: ((wsX7_drop_r1 ++ wsX7_drop_r2) ++ wsX70)
def wsX7_shift_r1 : List Cond := [Cond.constantLong RX7 94 (-1125899906842624), Cond.constantLong RX7 67 (1125899906842624), Cond.constantLong RX7 73 (-2000000001), Cond.constantLong RX7 50 (-2000000002), Cond.constantLong RX7 99 (2), Cond.methodLink RX7 44 yX7_isDue, Cond.instanceMethod yX7_isDue, Cond.selects RX7 yX7_isDue yX7_isDue, Cond.initialized RX7, Cond.code yX7_isDue cX7_isDue 2 (some .boolean), Cond.constantLong RX7 34 (199), Cond.methodLink RX7 36 yX7_isIn, Cond.static yX7_isIn, Cond.code yX7_isIn cX7_isIn 6 (some .boolean), Cond.methodLink RX7 40 yX7_get, Cond.instanceMethod yX7_get, Cond.selects RX7 yX7_get yX7_get, Cond.code yX7_get cX7_get 3 (some .long), Cond.fieldLink RX7 7 "DueWheelsModel" "s" "[J", Cond.methodLink RX7 96 yX7_hasTick, Cond.instanceMethod yX7_hasTick, Cond.selects RX7 yX7_hasTick yX7_hasTick, Cond.code yX7_hasTick cX7_hasTick 2 (some .boolean), Cond.constantLong RX7 48 (-2000000005)]
def wsX7_shift_r2 : List Cond := [Cond.methodLink RX7 69 yX7_isTick, Cond.instanceMethod yX7_isTick, Cond.selects RX7 yX7_isTick yX7_isTick, Cond.code yX7_isTick cX7_isTick 3 (some .boolean), Cond.methodLink RX7 60 yX7_keep, Cond.instanceMethod yX7_keep, Cond.selects RX7 yX7_keep yX7_keep, Cond.code yX7_keep cX7_keep 2 none, Cond.fieldLink RX7 30 "DueWheelsModel" "kept" "I", Cond.fieldLink RX7 13 "DueWheelsModel" "before" "[J", Cond.methodLink RX7 81 yX7_tick, Cond.instanceMethod yX7_tick, Cond.selects RX7 yX7_tick yX7_tick, Cond.code yX7_tick cX7_tick 4 none, Cond.methodLink RX7 52 yX7_put, Cond.instanceMethod yX7_put, Cond.selects RX7 yX7_put yX7_put, Cond.code yX7_put cX7_put 5 none, Cond.methodLink RX7 63 yX7_line, Cond.instanceMethod yX7_line, Cond.selects RX7 yX7_line yX7_line, Cond.code yX7_line cX7_line 2 none]
def wsX7_shift : List Cond := .code yX7_shift cX7_shift 8 (some .long) :: ((wsX7_shift_r1 ++ wsX7_shift_r2) ++ wsX70)
def wsX7_isBehind : List Cond := .code yX7_isBehind cX7_isBehind 4 (some .boolean) :: ([.methodLink RX7 91 yX7_waits, .instanceMethod yX7_waits, .selects RX7 yX7_waits yX7_waits, .initialized RX7, .code yX7_waits cX7_waits 2 (some .boolean), .constantLong RX7 48 (-2000000005), .methodLink RX7 44 yX7_isDue, .instanceMethod yX7_isDue, .selects RX7 yX7_isDue yX7_isDue, .code yX7_isDue cX7_isDue 2 (some .boolean), .constantLong RX7 34 (199), .methodLink RX7 36 yX7_isIn, .static yX7_isIn, .code yX7_isIn cX7_isIn 6 (some .boolean), .methodLink RX7 40 yX7_get, .instanceMethod yX7_get, .selects RX7 yX7_get yX7_get, .code yX7_get cX7_get 3 (some .long), .fieldLink RX7 7 "DueWheelsModel" "s" "[J"] ++ wsX70)
def wsX7_chain_r1 : List Cond := [Cond.constantLong RX7 73 (-2000000001), Cond.constantLong RX7 50 (-2000000002), Cond.constantLong RX7 105 (-2000000004), Cond.methodLink RX7 44 yX7_isDue, Cond.instanceMethod yX7_isDue, Cond.selects RX7 yX7_isDue yX7_isDue, Cond.initialized RX7, Cond.code yX7_isDue cX7_isDue 2 (some .boolean), Cond.constantLong RX7 34 (199), Cond.methodLink RX7 36 yX7_isIn, Cond.static yX7_isIn, Cond.code yX7_isIn cX7_isIn 6 (some .boolean), Cond.methodLink RX7 40 yX7_get, Cond.instanceMethod yX7_get, Cond.selects RX7 yX7_get yX7_get, Cond.code yX7_get cX7_get 3 (some .long), Cond.fieldLink RX7 7 "DueWheelsModel" "s" "[J", Cond.methodLink RX7 91 yX7_waits, Cond.instanceMethod yX7_waits, Cond.selects RX7 yX7_waits yX7_waits, Cond.code yX7_waits cX7_waits 2 (some .boolean), Cond.constantLong RX7 48 (-2000000005), Cond.methodLink RX7 101 yX7_isBehind, Cond.instanceMethod yX7_isBehind]
def wsX7_chain_r2 : List Cond := [Cond.selects RX7 yX7_isBehind yX7_isBehind, Cond.code yX7_isBehind cX7_isBehind 4 (some .boolean), Cond.methodLink RX7 60 yX7_keep, Cond.instanceMethod yX7_keep, Cond.selects RX7 yX7_keep yX7_keep, Cond.code yX7_keep cX7_keep 2 none, Cond.fieldLink RX7 30 "DueWheelsModel" "kept" "I", Cond.fieldLink RX7 13 "DueWheelsModel" "before" "[J", Cond.methodLink RX7 52 yX7_put, Cond.instanceMethod yX7_put, Cond.selects RX7 yX7_put yX7_put, Cond.code yX7_put cX7_put 5 none]
def wsX7_chain : List Cond := .code yX7_chain cX7_chain 3 (some .long) :: ((wsX7_chain_r1 ++ wsX7_chain_r2) ++ wsX70)
def wsX7_rest_r1 : List Cond := [Cond.constantLong RX7 73 (-2000000001), Cond.constantLong RX7 107 (4), Cond.constantLong RX7 50 (-2000000002), Cond.fieldLink RX7 7 "DueWheelsModel" "s" "[J", Cond.constantLong RX7 48 (-2000000005), Cond.methodLink RX7 44 yX7_isDue, Cond.instanceMethod yX7_isDue, Cond.selects RX7 yX7_isDue yX7_isDue, Cond.initialized RX7, Cond.code yX7_isDue cX7_isDue 2 (some .boolean), Cond.constantLong RX7 34 (199), Cond.methodLink RX7 36 yX7_isIn, Cond.static yX7_isIn, Cond.code yX7_isIn cX7_isIn 6 (some .boolean), Cond.methodLink RX7 40 yX7_get, Cond.instanceMethod yX7_get, Cond.selects RX7 yX7_get yX7_get, Cond.code yX7_get cX7_get 3 (some .long), Cond.methodLink RX7 109 yX7_rests, Cond.instanceMethod yX7_rests, Cond.selects RX7 yX7_rests yX7_rests, Cond.code yX7_rests cX7_rests 2 (some .boolean), Cond.methodLink RX7 60 yX7_keep, Cond.instanceMethod yX7_keep]
def wsX7_rest_r2 : List Cond := [Cond.selects RX7 yX7_keep yX7_keep, Cond.code yX7_keep cX7_keep 2 none, Cond.fieldLink RX7 30 "DueWheelsModel" "kept" "I", Cond.fieldLink RX7 13 "DueWheelsModel" "before" "[J", Cond.methodLink RX7 52 yX7_put, Cond.instanceMethod yX7_put, Cond.selects RX7 yX7_put yX7_put, Cond.code yX7_put cX7_put 5 none]
def wsX7_rest : List Cond := .code yX7_rest cX7_rest 4 (some .long) :: ((wsX7_rest_r1 ++ wsX7_rest_r2) ++ wsX70)
def wsX7_wake_r1 : List Cond := [Cond.constantLong RX7 73 (-2000000001), Cond.constantLong RX7 50 (-2000000002), Cond.fieldLink RX7 7 "DueWheelsModel" "s" "[J", Cond.constantLong RX7 67 (1125899906842624), Cond.constantLong RX7 48 (-2000000005), Cond.methodLink RX7 44 yX7_isDue, Cond.instanceMethod yX7_isDue, Cond.selects RX7 yX7_isDue yX7_isDue, Cond.initialized RX7, Cond.code yX7_isDue cX7_isDue 2 (some .boolean), Cond.constantLong RX7 34 (199), Cond.methodLink RX7 36 yX7_isIn, Cond.static yX7_isIn, Cond.code yX7_isIn cX7_isIn 6 (some .boolean), Cond.methodLink RX7 40 yX7_get, Cond.instanceMethod yX7_get, Cond.selects RX7 yX7_get yX7_get, Cond.code yX7_get cX7_get 3 (some .long), Cond.methodLink RX7 109 yX7_rests, Cond.instanceMethod yX7_rests, Cond.selects RX7 yX7_rests yX7_rests, Cond.code yX7_rests cX7_rests 2 (some .boolean), Cond.methodLink RX7 60 yX7_keep, Cond.instanceMethod yX7_keep]
def wsX7_wake_r2 : List Cond := [Cond.selects RX7 yX7_keep yX7_keep, Cond.code yX7_keep cX7_keep 2 none, Cond.fieldLink RX7 30 "DueWheelsModel" "kept" "I", Cond.fieldLink RX7 13 "DueWheelsModel" "before" "[J", Cond.methodLink RX7 52 yX7_put, Cond.instanceMethod yX7_put, Cond.selects RX7 yX7_put yX7_put, Cond.code yX7_put cX7_put 5 none, Cond.methodLink RX7 81 yX7_tick, Cond.instanceMethod yX7_tick, Cond.selects RX7 yX7_tick yX7_tick, Cond.code yX7_tick cX7_tick 4 none, Cond.methodLink RX7 63 yX7_line, Cond.instanceMethod yX7_line, Cond.selects RX7 yX7_line yX7_line, Cond.code yX7_line cX7_line 2 none]
def wsX7_wake : List Cond := .code yX7_wake cX7_wake 4 (some .long) :: ((wsX7_wake_r1 ++ wsX7_wake_r2) ++ wsX70)
def wsX7_about : List Cond := .code yX7_about cX7_about 3 (some .long) :: ([.constantLong RX7 112 (8), .constantLong RX7 73 (-2000000001), .methodLink RX7 44 yX7_isDue, .instanceMethod yX7_isDue, .selects RX7 yX7_isDue yX7_isDue, .initialized RX7, .code yX7_isDue cX7_isDue 2 (some .boolean), .constantLong RX7 34 (199), .methodLink RX7 36 yX7_isIn, .static yX7_isIn, .code yX7_isIn cX7_isIn 6 (some .boolean), .methodLink RX7 40 yX7_get, .instanceMethod yX7_get, .selects RX7 yX7_get yX7_get, .code yX7_get cX7_get 3 (some .long), .fieldLink RX7 7 "DueWheelsModel" "s" "[J"] ++ wsX70)
def wsX7_isOf : List Cond := .code yX7_isOf cX7_isOf 5 (some .long) :: ([.constantLong RX7 107 (4), .constantLong RX7 73 (-2000000001), .methodLink RX7 44 yX7_isDue, .instanceMethod yX7_isDue, .selects RX7 yX7_isDue yX7_isDue, .initialized RX7, .code yX7_isDue cX7_isDue 2 (some .boolean), .constantLong RX7 34 (199), .methodLink RX7 36 yX7_isIn, .static yX7_isIn, .code yX7_isIn cX7_isIn 6 (some .boolean), .methodLink RX7 40 yX7_get, .instanceMethod yX7_get, .selects RX7 yX7_get yX7_get, .code yX7_get cX7_get 3 (some .long), .fieldLink RX7 7 "DueWheelsModel" "s" "[J"] ++ wsX70)
def wsX7_turnOf : List Cond := .code yX7_turnOf cX7_turnOf 4 (some .long) :: ([])
def wsX7_wheelOf : List Cond := .code yX7_wheelOf cX7_wheelOf 4 (some .int) :: ([.fieldLink RX7 7 "DueWheelsModel" "s" "[J", .methodLink RX7 114 yX7_turnOf, .static yX7_turnOf, .initialized RX7, .code yX7_turnOf cX7_turnOf 4 (some .long)] ++ wsX70)
def wsX7_slotOf : List Cond := .code yX7_slotOf cX7_slotOf 3 (some .int) :: ([.constantLong RX7 118 (63)])
def wsX7_movesOf : List Cond := .code yX7_movesOf cX7_movesOf 11 (some .int) :: ([.methodLink RX7 114 yX7_turnOf, .static yX7_turnOf, .initialized RX7, .code yX7_turnOf cX7_turnOf 4 (some .long)])
def wsX7_pass_r1 : List Cond := [Cond.fieldLink RX7 7 "DueWheelsModel" "s" "[J", Cond.methodLink RX7 96 yX7_hasTick, Cond.instanceMethod yX7_hasTick, Cond.selects RX7 yX7_hasTick yX7_hasTick, Cond.initialized RX7, Cond.code yX7_hasTick cX7_hasTick 2 (some .boolean), Cond.constantLong RX7 48 (-2000000005), Cond.methodLink RX7 44 yX7_isDue, Cond.instanceMethod yX7_isDue, Cond.selects RX7 yX7_isDue yX7_isDue, Cond.code yX7_isDue cX7_isDue 2 (some .boolean), Cond.constantLong RX7 34 (199), Cond.methodLink RX7 36 yX7_isIn, Cond.static yX7_isIn, Cond.code yX7_isIn cX7_isIn 6 (some .boolean), Cond.methodLink RX7 40 yX7_get, Cond.instanceMethod yX7_get, Cond.selects RX7 yX7_get yX7_get, Cond.code yX7_get cX7_get 3 (some .long), Cond.methodLink RX7 120 yX7_movesOf, Cond.static yX7_movesOf, Cond.code yX7_movesOf cX7_movesOf 11 (some .int), Cond.methodLink RX7 114 yX7_turnOf, Cond.static yX7_turnOf]
def wsX7_pass_r2 : List Cond := [Cond.code yX7_turnOf cX7_turnOf 4 (some .long), Cond.methodLink RX7 52 yX7_put, Cond.instanceMethod yX7_put, Cond.selects RX7 yX7_put yX7_put, Cond.code yX7_put cX7_put 5 none]
def wsX7_pass : List Cond := .code yX7_pass cX7_pass 5 none :: ((wsX7_pass_r1 ++ wsX7_pass_r2) ++ wsX70)
def wsX7_nextTick : List Cond := .code yX7_nextTick cX7_nextTick 4 (some .long) :: ([.constantLong RX7 67 (1125899906842624), .methodLink RX7 96 yX7_hasTick, .instanceMethod yX7_hasTick, .selects RX7 yX7_hasTick yX7_hasTick, .initialized RX7, .code yX7_hasTick cX7_hasTick 2 (some .boolean), .constantLong RX7 48 (-2000000005), .methodLink RX7 44 yX7_isDue, .instanceMethod yX7_isDue, .selects RX7 yX7_isDue yX7_isDue, .code yX7_isDue cX7_isDue 2 (some .boolean), .constantLong RX7 34 (199), .methodLink RX7 36 yX7_isIn, .static yX7_isIn, .code yX7_isIn cX7_isIn 6 (some .boolean), .methodLink RX7 40 yX7_get, .instanceMethod yX7_get, .selects RX7 yX7_get yX7_get, .code yX7_get cX7_get 3 (some .long), .fieldLink RX7 7 "DueWheelsModel" "s" "[J"] ++ wsX70)
def wsX7_find : List Cond := .code yX7_find cX7_find 9 none :: ([.fieldLink RX7 124 "DueWheelsModel" "goerCount" "I", .fieldLink RX7 16 "DueWheelsModel" "goers" "[I", .methodLink RX7 96 yX7_hasTick, .instanceMethod yX7_hasTick, .selects RX7 yX7_hasTick yX7_hasTick, .initialized RX7, .code yX7_hasTick cX7_hasTick 2 (some .boolean), .constantLong RX7 48 (-2000000005), .methodLink RX7 44 yX7_isDue, .instanceMethod yX7_isDue, .selects RX7 yX7_isDue yX7_isDue, .code yX7_isDue cX7_isDue 2 (some .boolean), .constantLong RX7 34 (199), .methodLink RX7 36 yX7_isIn, .static yX7_isIn, .code yX7_isIn cX7_isIn 6 (some .boolean), .methodLink RX7 40 yX7_get, .instanceMethod yX7_get, .selects RX7 yX7_get yX7_get, .code yX7_get cX7_get 3 (some .long), .fieldLink RX7 7 "DueWheelsModel" "s" "[J"] ++ wsX70)
def wsX7_findAll_r1 : List Cond := [Cond.fieldLink RX7 124 "DueWheelsModel" "goerCount" "I", Cond.methodLink RX7 127 yX7_find, Cond.instanceMethod yX7_find, Cond.selects RX7 yX7_find yX7_find, Cond.initialized RX7, Cond.code yX7_find cX7_find 9 none, Cond.fieldLink RX7 16 "DueWheelsModel" "goers" "[I", Cond.methodLink RX7 96 yX7_hasTick, Cond.instanceMethod yX7_hasTick, Cond.selects RX7 yX7_hasTick yX7_hasTick, Cond.code yX7_hasTick cX7_hasTick 2 (some .boolean), Cond.constantLong RX7 48 (-2000000005), Cond.methodLink RX7 44 yX7_isDue, Cond.instanceMethod yX7_isDue, Cond.selects RX7 yX7_isDue yX7_isDue, Cond.code yX7_isDue cX7_isDue 2 (some .boolean), Cond.constantLong RX7 34 (199), Cond.methodLink RX7 36 yX7_isIn, Cond.static yX7_isIn, Cond.code yX7_isIn cX7_isIn 6 (some .boolean), Cond.methodLink RX7 40 yX7_get, Cond.instanceMethod yX7_get, Cond.selects RX7 yX7_get yX7_get, Cond.code yX7_get cX7_get 3 (some .long)]
def wsX7_findAll_r2 : List Cond := [Cond.fieldLink RX7 7 "DueWheelsModel" "s" "[J"]
def wsX7_findAll : List Cond := .code yX7_findAll cX7_findAll 3 none :: ((wsX7_findAll_r1 ++ wsX7_findAll_r2) ++ wsX70)
def wsX7_tell_r1 : List Cond := [Cond.constantLong RX7 48 (-2000000005), Cond.constantLong RX7 67 (1125899906842624), Cond.methodLink RX7 91 yX7_waits, Cond.instanceMethod yX7_waits, Cond.selects RX7 yX7_waits yX7_waits, Cond.initialized RX7, Cond.code yX7_waits cX7_waits 2 (some .boolean), Cond.methodLink RX7 44 yX7_isDue, Cond.instanceMethod yX7_isDue, Cond.selects RX7 yX7_isDue yX7_isDue, Cond.code yX7_isDue cX7_isDue 2 (some .boolean), Cond.constantLong RX7 34 (199), Cond.methodLink RX7 36 yX7_isIn, Cond.static yX7_isIn, Cond.code yX7_isIn cX7_isIn 6 (some .boolean), Cond.methodLink RX7 40 yX7_get, Cond.instanceMethod yX7_get, Cond.selects RX7 yX7_get yX7_get, Cond.code yX7_get cX7_get 3 (some .long), Cond.fieldLink RX7 7 "DueWheelsModel" "s" "[J", Cond.methodLink RX7 52 yX7_put, Cond.instanceMethod yX7_put, Cond.selects RX7 yX7_put yX7_put, Cond.code yX7_put cX7_put 5 none]
def wsX7_tell_r2 : List Cond := [Cond.methodLink RX7 81 yX7_tick, Cond.instanceMethod yX7_tick, Cond.selects RX7 yX7_tick yX7_tick, Cond.code yX7_tick cX7_tick 4 none]
def wsX7_tell : List Cond := .code yX7_tell cX7_tell 7 none :: ((wsX7_tell_r1 ++ wsX7_tell_r2) ++ wsX70)
def wsX7_goesOn : List Cond := .code yX7_goesOn cX7_goesOn 10 none :: ([.constantLong RX7 107 (4), .constantLong RX7 67 (1125899906842624), .methodLink RX7 40 yX7_get, .instanceMethod yX7_get, .selects RX7 yX7_get yX7_get, .initialized RX7, .code yX7_get cX7_get 3 (some .long), .fieldLink RX7 7 "DueWheelsModel" "s" "[J", .methodLink RX7 52 yX7_put, .instanceMethod yX7_put, .selects RX7 yX7_put yX7_put, .code yX7_put cX7_put 5 none, .methodLink RX7 81 yX7_tick, .instanceMethod yX7_tick, .selects RX7 yX7_tick yX7_tick, .code yX7_tick cX7_tick 4 none] ++ wsX70)
def wsX7_goAll_r1 : List Cond := [Cond.fieldLink RX7 124 "DueWheelsModel" "goerCount" "I", Cond.fieldLink RX7 16 "DueWheelsModel" "goers" "[I", Cond.constantLong RX7 131 (2800), Cond.constantLong RX7 133 (3), Cond.fieldLink RX7 7 "DueWheelsModel" "s" "[J", Cond.methodLink RX7 40 yX7_get, Cond.instanceMethod yX7_get, Cond.selects RX7 yX7_get yX7_get, Cond.initialized RX7, Cond.code yX7_get cX7_get 3 (some .long), Cond.methodLink RX7 135 yX7_tell, Cond.instanceMethod yX7_tell, Cond.selects RX7 yX7_tell yX7_tell, Cond.code yX7_tell cX7_tell 7 none, Cond.constantLong RX7 48 (-2000000005), Cond.constantLong RX7 67 (1125899906842624), Cond.methodLink RX7 91 yX7_waits, Cond.instanceMethod yX7_waits, Cond.selects RX7 yX7_waits yX7_waits, Cond.code yX7_waits cX7_waits 2 (some .boolean), Cond.methodLink RX7 44 yX7_isDue, Cond.instanceMethod yX7_isDue, Cond.selects RX7 yX7_isDue yX7_isDue, Cond.code yX7_isDue cX7_isDue 2 (some .boolean)]
def wsX7_goAll_r2 : List Cond := [Cond.constantLong RX7 34 (199), Cond.methodLink RX7 36 yX7_isIn, Cond.static yX7_isIn, Cond.code yX7_isIn cX7_isIn 6 (some .boolean), Cond.methodLink RX7 52 yX7_put, Cond.instanceMethod yX7_put, Cond.selects RX7 yX7_put yX7_put, Cond.code yX7_put cX7_put 5 none, Cond.methodLink RX7 81 yX7_tick, Cond.instanceMethod yX7_tick, Cond.selects RX7 yX7_tick yX7_tick, Cond.code yX7_tick cX7_tick 4 none, Cond.methodLink RX7 138 yX7_goesOn, Cond.instanceMethod yX7_goesOn, Cond.selects RX7 yX7_goesOn yX7_goesOn, Cond.code yX7_goesOn cX7_goesOn 10 none, Cond.constantLong RX7 107 (4)]
def wsX7_goAll : List Cond := .code yX7_goAll cX7_goAll 6 none :: ((wsX7_goAll_r1 ++ wsX7_goAll_r2) ++ wsX70)
def wsX7_go_r1 : List Cond := [Cond.fieldLink RX7 7 "DueWheelsModel" "s" "[J", Cond.constantLong RX7 141 (1125899906842623), Cond.constantLong RX7 73 (-2000000001), Cond.fieldLink RX7 124 "DueWheelsModel" "goerCount" "I", Cond.constantLong RX7 151 (300), Cond.methodLink RX7 36 yX7_isIn, Cond.static yX7_isIn, Cond.initialized RX7, Cond.code yX7_isIn cX7_isIn 6 (some .boolean), Cond.methodLink RX7 60 yX7_keep, Cond.instanceMethod yX7_keep, Cond.selects RX7 yX7_keep yX7_keep, Cond.code yX7_keep cX7_keep 2 none, Cond.fieldLink RX7 30 "DueWheelsModel" "kept" "I", Cond.fieldLink RX7 13 "DueWheelsModel" "before" "[J", Cond.methodLink RX7 143 yX7_nextTick, Cond.instanceMethod yX7_nextTick, Cond.selects RX7 yX7_nextTick yX7_nextTick, Cond.code yX7_nextTick cX7_nextTick 4 (some .long), Cond.constantLong RX7 67 (1125899906842624), Cond.methodLink RX7 96 yX7_hasTick, Cond.instanceMethod yX7_hasTick, Cond.selects RX7 yX7_hasTick yX7_hasTick, Cond.code yX7_hasTick cX7_hasTick 2 (some .boolean)]
def wsX7_go_r2 : List Cond := [Cond.constantLong RX7 48 (-2000000005), Cond.methodLink RX7 44 yX7_isDue, Cond.instanceMethod yX7_isDue, Cond.selects RX7 yX7_isDue yX7_isDue, Cond.code yX7_isDue cX7_isDue 2 (some .boolean), Cond.constantLong RX7 34 (199), Cond.methodLink RX7 40 yX7_get, Cond.instanceMethod yX7_get, Cond.selects RX7 yX7_get yX7_get, Cond.code yX7_get cX7_get 3 (some .long), Cond.methodLink RX7 147 yX7_findAll, Cond.instanceMethod yX7_findAll, Cond.selects RX7 yX7_findAll yX7_findAll, Cond.code yX7_findAll cX7_findAll 3 none, Cond.methodLink RX7 127 yX7_find, Cond.instanceMethod yX7_find, Cond.selects RX7 yX7_find yX7_find, Cond.code yX7_find cX7_find 9 none, Cond.fieldLink RX7 16 "DueWheelsModel" "goers" "[I", Cond.methodLink RX7 153 yX7_pass, Cond.instanceMethod yX7_pass, Cond.selects RX7 yX7_pass yX7_pass, Cond.code yX7_pass cX7_pass 5 none, Cond.methodLink RX7 120 yX7_movesOf]
def wsX7_go_r3 : List Cond := [Cond.static yX7_movesOf, Cond.code yX7_movesOf cX7_movesOf 11 (some .int), Cond.methodLink RX7 114 yX7_turnOf, Cond.static yX7_turnOf, Cond.code yX7_turnOf cX7_turnOf 4 (some .long), Cond.methodLink RX7 52 yX7_put, Cond.instanceMethod yX7_put, Cond.selects RX7 yX7_put yX7_put, Cond.code yX7_put cX7_put 5 none, Cond.methodLink RX7 156 yX7_goAll, Cond.instanceMethod yX7_goAll, Cond.selects RX7 yX7_goAll yX7_goAll, Cond.code yX7_goAll cX7_goAll 6 none, Cond.constantLong RX7 131 (2800), Cond.constantLong RX7 133 (3), Cond.methodLink RX7 135 yX7_tell, Cond.instanceMethod yX7_tell, Cond.selects RX7 yX7_tell yX7_tell, Cond.code yX7_tell cX7_tell 7 none, Cond.methodLink RX7 91 yX7_waits, Cond.instanceMethod yX7_waits, Cond.selects RX7 yX7_waits yX7_waits, Cond.code yX7_waits cX7_waits 2 (some .boolean), Cond.methodLink RX7 81 yX7_tick]
def wsX7_go_r4 : List Cond := [Cond.instanceMethod yX7_tick, Cond.selects RX7 yX7_tick yX7_tick, Cond.code yX7_tick cX7_tick 4 none, Cond.methodLink RX7 138 yX7_goesOn, Cond.instanceMethod yX7_goesOn, Cond.selects RX7 yX7_goesOn yX7_goesOn, Cond.code yX7_goesOn cX7_goesOn 10 none, Cond.constantLong RX7 107 (4)]
def wsX7_go : List Cond := .code yX7_go cX7_go 6 (some .long) :: ((wsX7_go_r1 ++ (wsX7_go_r2 ++ (wsX7_go_r3 ++ wsX7_go_r4))) ++ wsX70)
def wsX7_went : List Cond := .code yX7_went cX7_went 3 (some .long) :: ([.constantLong RX7 99 (2), .constantLong RX7 73 (-2000000001), .fieldLink RX7 7 "DueWheelsModel" "s" "[J", .constantLong RX7 48 (-2000000005), .methodLink RX7 36 yX7_isIn, .static yX7_isIn, .initialized RX7, .code yX7_isIn cX7_isIn 6 (some .boolean)] ++ wsX70)
def wsX7_next : List Cond := .code yX7_next cX7_next 3 (some .long) :: ([.constantLong RX7 67 (1125899906842624), .constantLong RX7 48 (-2000000005), .methodLink RX7 143 yX7_nextTick, .instanceMethod yX7_nextTick, .selects RX7 yX7_nextTick yX7_nextTick, .initialized RX7, .code yX7_nextTick cX7_nextTick 4 (some .long), .methodLink RX7 96 yX7_hasTick, .instanceMethod yX7_hasTick, .selects RX7 yX7_hasTick yX7_hasTick, .code yX7_hasTick cX7_hasTick 2 (some .boolean), .methodLink RX7 44 yX7_isDue, .instanceMethod yX7_isDue, .selects RX7 yX7_isDue yX7_isDue, .code yX7_isDue cX7_isDue 2 (some .boolean), .constantLong RX7 34 (199), .methodLink RX7 36 yX7_isIn, .static yX7_isIn, .code yX7_isIn cX7_isIn 6 (some .boolean), .methodLink RX7 40 yX7_get, .instanceMethod yX7_get, .selects RX7 yX7_get yX7_get, .code yX7_get cX7_get 3 (some .long), .fieldLink RX7 7 "DueWheelsModel" "s" "[J"] ++ wsX70)
def wsX7_isAhead : List Cond := .code yX7_isAhead cX7_isAhead 3 (some .boolean) :: ([.methodLink RX7 40 yX7_get, .instanceMethod yX7_get, .selects RX7 yX7_get yX7_get, .initialized RX7, .code yX7_get cX7_get 3 (some .long), .fieldLink RX7 7 "DueWheelsModel" "s" "[J"] ++ wsX70)
def wsX7_gather_r1 : List Cond := [Cond.fieldLink RX7 159 "DueWheelsModel" "looseCount" "I", Cond.fieldLink RX7 23 "DueWheelsModel" "ticks" "[J", Cond.constantLong RX7 48 (-2000000005), Cond.constantLong RX7 99 (2), Cond.fieldLink RX7 20 "DueWheelsModel" "loose" "[I", Cond.methodLink RX7 96 yX7_hasTick, Cond.instanceMethod yX7_hasTick, Cond.selects RX7 yX7_hasTick yX7_hasTick, Cond.initialized RX7, Cond.code yX7_hasTick cX7_hasTick 2 (some .boolean), Cond.methodLink RX7 44 yX7_isDue, Cond.instanceMethod yX7_isDue, Cond.selects RX7 yX7_isDue yX7_isDue, Cond.code yX7_isDue cX7_isDue 2 (some .boolean), Cond.constantLong RX7 34 (199), Cond.methodLink RX7 36 yX7_isIn, Cond.static yX7_isIn, Cond.code yX7_isIn cX7_isIn 6 (some .boolean), Cond.methodLink RX7 40 yX7_get, Cond.instanceMethod yX7_get, Cond.selects RX7 yX7_get yX7_get, Cond.code yX7_get cX7_get 3 (some .long), Cond.fieldLink RX7 7 "DueWheelsModel" "s" "[J", Cond.methodLink RX7 162 yX7_isAhead]
def wsX7_gather_r2 : List Cond := [Cond.instanceMethod yX7_isAhead, Cond.selects RX7 yX7_isAhead yX7_isAhead, Cond.code yX7_isAhead cX7_isAhead 3 (some .boolean)]
def wsX7_gather : List Cond := .code yX7_gather cX7_gather 3 none :: ((wsX7_gather_r1 ++ wsX7_gather_r2) ++ wsX70)
def wsX7_fastIn : List Cond := .code yX7_fastIn cX7_fastIn 8 (some .long) :: ([.fieldLink RX7 7 "DueWheelsModel" "s" "[J", .constantLong RX7 48 (-2000000005), .fieldLink RX7 26 "DueWheelsModel" "isFast" "[Z", .fieldLink RX7 23 "DueWheelsModel" "ticks" "[J", .methodLink RX7 40 yX7_get, .instanceMethod yX7_get, .selects RX7 yX7_get yX7_get, .initialized RX7, .code yX7_get cX7_get 3 (some .long), .methodLink RX7 36 yX7_isIn, .static yX7_isIn, .code yX7_isIn cX7_isIn 6 (some .boolean)] ++ wsX70)
def wsX7_settled_r1 : List Cond := [Cond.fieldLink RX7 26 "DueWheelsModel" "isFast" "[Z", Cond.constantLong RX7 99 (2), Cond.fieldLink RX7 159 "DueWheelsModel" "looseCount" "I", Cond.fieldLink RX7 20 "DueWheelsModel" "loose" "[I", Cond.constantLong RX7 48 (-2000000005), Cond.fieldLink RX7 23 "DueWheelsModel" "ticks" "[J", Cond.methodLink RX7 165 yX7_gather, Cond.instanceMethod yX7_gather, Cond.selects RX7 yX7_gather yX7_gather, Cond.initialized RX7, Cond.code yX7_gather cX7_gather 3 none, Cond.methodLink RX7 96 yX7_hasTick, Cond.instanceMethod yX7_hasTick, Cond.selects RX7 yX7_hasTick yX7_hasTick, Cond.code yX7_hasTick cX7_hasTick 2 (some .boolean), Cond.methodLink RX7 44 yX7_isDue, Cond.instanceMethod yX7_isDue, Cond.selects RX7 yX7_isDue yX7_isDue, Cond.code yX7_isDue cX7_isDue 2 (some .boolean), Cond.constantLong RX7 34 (199), Cond.methodLink RX7 36 yX7_isIn, Cond.static yX7_isIn, Cond.code yX7_isIn cX7_isIn 6 (some .boolean), Cond.methodLink RX7 40 yX7_get]
def wsX7_settled_r2 : List Cond := [Cond.instanceMethod yX7_get, Cond.selects RX7 yX7_get yX7_get, Cond.code yX7_get cX7_get 3 (some .long), Cond.fieldLink RX7 7 "DueWheelsModel" "s" "[J", Cond.methodLink RX7 162 yX7_isAhead, Cond.instanceMethod yX7_isAhead, Cond.selects RX7 yX7_isAhead yX7_isAhead, Cond.code yX7_isAhead cX7_isAhead 3 (some .boolean), Cond.methodLink RX7 168 yX7_fastIn, Cond.instanceMethod yX7_fastIn, Cond.selects RX7 yX7_fastIn yX7_fastIn, Cond.code yX7_fastIn cX7_fastIn 8 (some .long)]
def wsX7_settled : List Cond := .code yX7_settled cX7_settled 6 (some .int) :: ((wsX7_settled_r1 ++ wsX7_settled_r2) ++ wsX70)
def wsX7_fewest_r1 : List Cond := [Cond.methodLink RX7 172 yX7_settled, Cond.instanceMethod yX7_settled, Cond.selects RX7 yX7_settled yX7_settled, Cond.initialized RX7, Cond.code yX7_settled cX7_settled 6 (some .int), Cond.fieldLink RX7 26 "DueWheelsModel" "isFast" "[Z", Cond.constantLong RX7 99 (2), Cond.fieldLink RX7 159 "DueWheelsModel" "looseCount" "I", Cond.fieldLink RX7 20 "DueWheelsModel" "loose" "[I", Cond.constantLong RX7 48 (-2000000005), Cond.fieldLink RX7 23 "DueWheelsModel" "ticks" "[J", Cond.methodLink RX7 165 yX7_gather, Cond.instanceMethod yX7_gather, Cond.selects RX7 yX7_gather yX7_gather, Cond.code yX7_gather cX7_gather 3 none, Cond.methodLink RX7 96 yX7_hasTick, Cond.instanceMethod yX7_hasTick, Cond.selects RX7 yX7_hasTick yX7_hasTick, Cond.code yX7_hasTick cX7_hasTick 2 (some .boolean), Cond.methodLink RX7 44 yX7_isDue, Cond.instanceMethod yX7_isDue, Cond.selects RX7 yX7_isDue yX7_isDue, Cond.code yX7_isDue cX7_isDue 2 (some .boolean), Cond.constantLong RX7 34 (199)]
def wsX7_fewest_r2 : List Cond := [Cond.methodLink RX7 36 yX7_isIn, Cond.static yX7_isIn, Cond.code yX7_isIn cX7_isIn 6 (some .boolean), Cond.methodLink RX7 40 yX7_get, Cond.instanceMethod yX7_get, Cond.selects RX7 yX7_get yX7_get, Cond.code yX7_get cX7_get 3 (some .long), Cond.fieldLink RX7 7 "DueWheelsModel" "s" "[J", Cond.methodLink RX7 162 yX7_isAhead, Cond.instanceMethod yX7_isAhead, Cond.selects RX7 yX7_isAhead yX7_isAhead, Cond.code yX7_isAhead cX7_isAhead 3 (some .boolean), Cond.methodLink RX7 168 yX7_fastIn, Cond.instanceMethod yX7_fastIn, Cond.selects RX7 yX7_fastIn yX7_fastIn, Cond.code yX7_fastIn cX7_fastIn 8 (some .long)]
def wsX7_fewest : List Cond := .code yX7_fewest cX7_fewest 1 (some .long) :: ((wsX7_fewest_r1 ++ wsX7_fewest_r2) ++ wsX70)
def wsX7_settle_r1 : List Cond := [Cond.fieldLink RX7 159 "DueWheelsModel" "looseCount" "I", Cond.fieldLink RX7 20 "DueWheelsModel" "loose" "[I", Cond.fieldLink RX7 23 "DueWheelsModel" "ticks" "[J", Cond.methodLink RX7 60 yX7_keep, Cond.instanceMethod yX7_keep, Cond.selects RX7 yX7_keep yX7_keep, Cond.initialized RX7, Cond.code yX7_keep cX7_keep 2 none, Cond.fieldLink RX7 30 "DueWheelsModel" "kept" "I", Cond.fieldLink RX7 13 "DueWheelsModel" "before" "[J", Cond.fieldLink RX7 7 "DueWheelsModel" "s" "[J", Cond.methodLink RX7 172 yX7_settled, Cond.instanceMethod yX7_settled, Cond.selects RX7 yX7_settled yX7_settled, Cond.code yX7_settled cX7_settled 6 (some .int), Cond.fieldLink RX7 26 "DueWheelsModel" "isFast" "[Z", Cond.constantLong RX7 99 (2), Cond.constantLong RX7 48 (-2000000005), Cond.methodLink RX7 165 yX7_gather, Cond.instanceMethod yX7_gather, Cond.selects RX7 yX7_gather yX7_gather, Cond.code yX7_gather cX7_gather 3 none, Cond.methodLink RX7 96 yX7_hasTick, Cond.instanceMethod yX7_hasTick]
def wsX7_settle_r2 : List Cond := [Cond.selects RX7 yX7_hasTick yX7_hasTick, Cond.code yX7_hasTick cX7_hasTick 2 (some .boolean), Cond.methodLink RX7 44 yX7_isDue, Cond.instanceMethod yX7_isDue, Cond.selects RX7 yX7_isDue yX7_isDue, Cond.code yX7_isDue cX7_isDue 2 (some .boolean), Cond.constantLong RX7 34 (199), Cond.methodLink RX7 36 yX7_isIn, Cond.static yX7_isIn, Cond.code yX7_isIn cX7_isIn 6 (some .boolean), Cond.methodLink RX7 40 yX7_get, Cond.instanceMethod yX7_get, Cond.selects RX7 yX7_get yX7_get, Cond.code yX7_get cX7_get 3 (some .long), Cond.methodLink RX7 162 yX7_isAhead, Cond.instanceMethod yX7_isAhead, Cond.selects RX7 yX7_isAhead yX7_isAhead, Cond.code yX7_isAhead cX7_isAhead 3 (some .boolean), Cond.methodLink RX7 168 yX7_fastIn, Cond.instanceMethod yX7_fastIn, Cond.selects RX7 yX7_fastIn yX7_fastIn, Cond.code yX7_fastIn cX7_fastIn 8 (some .long), Cond.methodLink RX7 81 yX7_tick, Cond.instanceMethod yX7_tick]
def wsX7_settle_r3 : List Cond := [Cond.selects RX7 yX7_tick yX7_tick, Cond.code yX7_tick cX7_tick 4 none, Cond.methodLink RX7 52 yX7_put, Cond.instanceMethod yX7_put, Cond.selects RX7 yX7_put yX7_put, Cond.code yX7_put cX7_put 5 none]
def wsX7_settle : List Cond := .code yX7_settle cX7_settle 5 (some .long) :: ((wsX7_settle_r1 ++ (wsX7_settle_r2 ++ wsX7_settle_r3)) ++ wsX70)
def wsX7_lies_r1 : List Cond := [Cond.constantLong RX7 99 (2), Cond.constantLong RX7 73 (-2000000001), Cond.constantLong RX7 48 (-2000000005), Cond.methodLink RX7 44 yX7_isDue, Cond.instanceMethod yX7_isDue, Cond.selects RX7 yX7_isDue yX7_isDue, Cond.initialized RX7, Cond.code yX7_isDue cX7_isDue 2 (some .boolean), Cond.constantLong RX7 34 (199), Cond.methodLink RX7 36 yX7_isIn, Cond.static yX7_isIn, Cond.code yX7_isIn cX7_isIn 6 (some .boolean), Cond.methodLink RX7 40 yX7_get, Cond.instanceMethod yX7_get, Cond.selects RX7 yX7_get yX7_get, Cond.code yX7_get cX7_get 3 (some .long), Cond.fieldLink RX7 7 "DueWheelsModel" "s" "[J", Cond.methodLink RX7 96 yX7_hasTick, Cond.instanceMethod yX7_hasTick, Cond.selects RX7 yX7_hasTick yX7_hasTick, Cond.code yX7_hasTick cX7_hasTick 2 (some .boolean), Cond.methodLink RX7 175 yX7_wheelOf, Cond.instanceMethod yX7_wheelOf, Cond.selects RX7 yX7_wheelOf yX7_wheelOf]
def wsX7_lies_r2 : List Cond := [Cond.code yX7_wheelOf cX7_wheelOf 4 (some .int), Cond.methodLink RX7 114 yX7_turnOf, Cond.static yX7_turnOf, Cond.code yX7_turnOf cX7_turnOf 4 (some .long), Cond.methodLink RX7 179 yX7_slotOf, Cond.static yX7_slotOf, Cond.code yX7_slotOf cX7_slotOf 3 (some .int), Cond.constantLong RX7 118 (63)]
def wsX7_lies : List Cond := .code yX7_lies cX7_lies 4 (some .long) :: ((wsX7_lies_r1 ++ wsX7_lies_r2) ++ wsX70)
def wsX7_liesIn_r1 : List Cond := [Cond.methodLink RX7 96 yX7_hasTick, Cond.instanceMethod yX7_hasTick, Cond.selects RX7 yX7_hasTick yX7_hasTick, Cond.initialized RX7, Cond.code yX7_hasTick cX7_hasTick 2 (some .boolean), Cond.constantLong RX7 48 (-2000000005), Cond.methodLink RX7 44 yX7_isDue, Cond.instanceMethod yX7_isDue, Cond.selects RX7 yX7_isDue yX7_isDue, Cond.code yX7_isDue cX7_isDue 2 (some .boolean), Cond.constantLong RX7 34 (199), Cond.methodLink RX7 36 yX7_isIn, Cond.static yX7_isIn, Cond.code yX7_isIn cX7_isIn 6 (some .boolean), Cond.methodLink RX7 40 yX7_get, Cond.instanceMethod yX7_get, Cond.selects RX7 yX7_get yX7_get, Cond.code yX7_get cX7_get 3 (some .long), Cond.fieldLink RX7 7 "DueWheelsModel" "s" "[J", Cond.methodLink RX7 175 yX7_wheelOf, Cond.instanceMethod yX7_wheelOf, Cond.selects RX7 yX7_wheelOf yX7_wheelOf, Cond.code yX7_wheelOf cX7_wheelOf 4 (some .int), Cond.methodLink RX7 114 yX7_turnOf]
def wsX7_liesIn_r2 : List Cond := [Cond.static yX7_turnOf, Cond.code yX7_turnOf cX7_turnOf 4 (some .long), Cond.methodLink RX7 179 yX7_slotOf, Cond.static yX7_slotOf, Cond.code yX7_slotOf cX7_slotOf 3 (some .int), Cond.constantLong RX7 118 (63)]
def wsX7_liesIn : List Cond := .code yX7_liesIn cX7_liesIn 4 (some .boolean) :: ((wsX7_liesIn_r1 ++ wsX7_liesIn_r2) ++ wsX70)
def wsX7_bits_r1 : List Cond := [Cond.constantLong RX7 107 (4), Cond.constantLong RX7 73 (-2000000001), Cond.methodLink RX7 36 yX7_isIn, Cond.static yX7_isIn, Cond.initialized RX7, Cond.code yX7_isIn cX7_isIn 6 (some .boolean), Cond.methodLink RX7 96 yX7_hasTick, Cond.instanceMethod yX7_hasTick, Cond.selects RX7 yX7_hasTick yX7_hasTick, Cond.code yX7_hasTick cX7_hasTick 2 (some .boolean), Cond.constantLong RX7 48 (-2000000005), Cond.methodLink RX7 44 yX7_isDue, Cond.instanceMethod yX7_isDue, Cond.selects RX7 yX7_isDue yX7_isDue, Cond.code yX7_isDue cX7_isDue 2 (some .boolean), Cond.constantLong RX7 34 (199), Cond.methodLink RX7 40 yX7_get, Cond.instanceMethod yX7_get, Cond.selects RX7 yX7_get yX7_get, Cond.code yX7_get cX7_get 3 (some .long), Cond.fieldLink RX7 7 "DueWheelsModel" "s" "[J", Cond.methodLink RX7 175 yX7_wheelOf, Cond.instanceMethod yX7_wheelOf, Cond.selects RX7 yX7_wheelOf yX7_wheelOf]
def wsX7_bits_r2 : List Cond := [Cond.code yX7_wheelOf cX7_wheelOf 4 (some .int), Cond.methodLink RX7 114 yX7_turnOf, Cond.static yX7_turnOf, Cond.code yX7_turnOf cX7_turnOf 4 (some .long), Cond.methodLink RX7 179 yX7_slotOf, Cond.static yX7_slotOf, Cond.code yX7_slotOf cX7_slotOf 3 (some .int), Cond.constantLong RX7 118 (63)]
def wsX7_bits : List Cond := .code yX7_bits cX7_bits 5 (some .long) :: ((wsX7_bits_r1 ++ wsX7_bits_r2) ++ wsX70)
def wsX7_isSlot : List Cond := .code yX7_isSlot cX7_isSlot 2 (some .boolean) :: ([.constantLong RX7 183 (5), .constantLong RX7 118 (63), .methodLink RX7 36 yX7_isIn, .static yX7_isIn, .initialized RX7, .code yX7_isIn cX7_isIn 6 (some .boolean)])
def wsX7_many_r1 : List Cond := [Cond.constantLong RX7 73 (-2000000001), Cond.methodLink RX7 185 yX7_isSlot, Cond.static yX7_isSlot, Cond.initialized RX7, Cond.code yX7_isSlot cX7_isSlot 2 (some .boolean), Cond.constantLong RX7 183 (5), Cond.constantLong RX7 118 (63), Cond.methodLink RX7 36 yX7_isIn, Cond.static yX7_isIn, Cond.code yX7_isIn cX7_isIn 6 (some .boolean), Cond.methodLink RX7 188 yX7_liesIn, Cond.instanceMethod yX7_liesIn, Cond.selects RX7 yX7_liesIn yX7_liesIn, Cond.code yX7_liesIn cX7_liesIn 4 (some .boolean), Cond.methodLink RX7 96 yX7_hasTick, Cond.instanceMethod yX7_hasTick, Cond.selects RX7 yX7_hasTick yX7_hasTick, Cond.code yX7_hasTick cX7_hasTick 2 (some .boolean), Cond.constantLong RX7 48 (-2000000005), Cond.methodLink RX7 44 yX7_isDue, Cond.instanceMethod yX7_isDue, Cond.selects RX7 yX7_isDue yX7_isDue, Cond.code yX7_isDue cX7_isDue 2 (some .boolean), Cond.constantLong RX7 34 (199)]
def wsX7_many_r2 : List Cond := [Cond.methodLink RX7 40 yX7_get, Cond.instanceMethod yX7_get, Cond.selects RX7 yX7_get yX7_get, Cond.code yX7_get cX7_get 3 (some .long), Cond.fieldLink RX7 7 "DueWheelsModel" "s" "[J", Cond.methodLink RX7 175 yX7_wheelOf, Cond.instanceMethod yX7_wheelOf, Cond.selects RX7 yX7_wheelOf yX7_wheelOf, Cond.code yX7_wheelOf cX7_wheelOf 4 (some .int), Cond.methodLink RX7 114 yX7_turnOf, Cond.static yX7_turnOf, Cond.code yX7_turnOf cX7_turnOf 4 (some .long), Cond.methodLink RX7 179 yX7_slotOf, Cond.static yX7_slotOf, Cond.code yX7_slotOf cX7_slotOf 3 (some .int)]
def wsX7_many : List Cond := .code yX7_many cX7_many 5 (some .long) :: ((wsX7_many_r1 ++ wsX7_many_r2) ++ wsX70)
def wsX7_in_r1 : List Cond := [Cond.constantLong RX7 73 (-2000000001), Cond.constantLong RX7 48 (-2000000005), Cond.methodLink RX7 185 yX7_isSlot, Cond.static yX7_isSlot, Cond.initialized RX7, Cond.code yX7_isSlot cX7_isSlot 2 (some .boolean), Cond.constantLong RX7 183 (5), Cond.constantLong RX7 118 (63), Cond.methodLink RX7 36 yX7_isIn, Cond.static yX7_isIn, Cond.code yX7_isIn cX7_isIn 6 (some .boolean), Cond.methodLink RX7 188 yX7_liesIn, Cond.instanceMethod yX7_liesIn, Cond.selects RX7 yX7_liesIn yX7_liesIn, Cond.code yX7_liesIn cX7_liesIn 4 (some .boolean), Cond.methodLink RX7 96 yX7_hasTick, Cond.instanceMethod yX7_hasTick, Cond.selects RX7 yX7_hasTick yX7_hasTick, Cond.code yX7_hasTick cX7_hasTick 2 (some .boolean), Cond.methodLink RX7 44 yX7_isDue, Cond.instanceMethod yX7_isDue, Cond.selects RX7 yX7_isDue yX7_isDue, Cond.code yX7_isDue cX7_isDue 2 (some .boolean), Cond.constantLong RX7 34 (199)]
def wsX7_in_r2 : List Cond := [Cond.methodLink RX7 40 yX7_get, Cond.instanceMethod yX7_get, Cond.selects RX7 yX7_get yX7_get, Cond.code yX7_get cX7_get 3 (some .long), Cond.fieldLink RX7 7 "DueWheelsModel" "s" "[J", Cond.methodLink RX7 175 yX7_wheelOf, Cond.instanceMethod yX7_wheelOf, Cond.selects RX7 yX7_wheelOf yX7_wheelOf, Cond.code yX7_wheelOf cX7_wheelOf 4 (some .int), Cond.methodLink RX7 114 yX7_turnOf, Cond.static yX7_turnOf, Cond.code yX7_turnOf cX7_turnOf 4 (some .long), Cond.methodLink RX7 179 yX7_slotOf, Cond.static yX7_slotOf, Cond.code yX7_slotOf cX7_slotOf 3 (some .int)]
def wsX7_in : List Cond := .code yX7_in cX7_in 6 (some .long) :: ((wsX7_in_r1 ++ wsX7_in_r2) ++ wsX70)
def wsX7_now : List Cond := .code yX7_now cX7_now 1 (some .long) :: ([.fieldLink RX7 7 "DueWheelsModel" "s" "[J"] ++ wsX70)
def wsX7_manyOf_r1 : List Cond := [Cond.methodLink RX7 44 yX7_isDue, Cond.instanceMethod yX7_isDue, Cond.selects RX7 yX7_isDue yX7_isDue, Cond.initialized RX7, Cond.code yX7_isDue cX7_isDue 2 (some .boolean), Cond.constantLong RX7 34 (199), Cond.methodLink RX7 36 yX7_isIn, Cond.static yX7_isIn, Cond.code yX7_isIn cX7_isIn 6 (some .boolean), Cond.methodLink RX7 40 yX7_get, Cond.instanceMethod yX7_get, Cond.selects RX7 yX7_get yX7_get, Cond.code yX7_get cX7_get 3 (some .long), Cond.fieldLink RX7 7 "DueWheelsModel" "s" "[J", Cond.methodLink RX7 96 yX7_hasTick, Cond.instanceMethod yX7_hasTick, Cond.selects RX7 yX7_hasTick yX7_hasTick, Cond.code yX7_hasTick cX7_hasTick 2 (some .boolean), Cond.constantLong RX7 48 (-2000000005), Cond.methodLink RX7 91 yX7_waits, Cond.instanceMethod yX7_waits, Cond.selects RX7 yX7_waits yX7_waits, Cond.code yX7_waits cX7_waits 2 (some .boolean), Cond.methodLink RX7 109 yX7_rests]
def wsX7_manyOf_r2 : List Cond := [Cond.instanceMethod yX7_rests, Cond.selects RX7 yX7_rests yX7_rests, Cond.code yX7_rests cX7_rests 2 (some .boolean)]
def wsX7_manyOf : List Cond := .code yX7_manyOf cX7_manyOf 5 (some .int) :: ((wsX7_manyOf_r1 ++ wsX7_manyOf_r2) ++ wsX70)
def wsX7_count_r1 : List Cond := [Cond.fieldLink RX7 7 "DueWheelsModel" "s" "[J", Cond.fieldLink RX7 30 "DueWheelsModel" "kept" "I", Cond.constantLong RX7 73 (-2000000001), Cond.methodLink RX7 192 yX7_manyOf, Cond.instanceMethod yX7_manyOf, Cond.selects RX7 yX7_manyOf yX7_manyOf, Cond.initialized RX7, Cond.code yX7_manyOf cX7_manyOf 5 (some .int), Cond.methodLink RX7 44 yX7_isDue, Cond.instanceMethod yX7_isDue, Cond.selects RX7 yX7_isDue yX7_isDue, Cond.code yX7_isDue cX7_isDue 2 (some .boolean), Cond.constantLong RX7 34 (199), Cond.methodLink RX7 36 yX7_isIn, Cond.static yX7_isIn, Cond.code yX7_isIn cX7_isIn 6 (some .boolean), Cond.methodLink RX7 40 yX7_get, Cond.instanceMethod yX7_get, Cond.selects RX7 yX7_get yX7_get, Cond.code yX7_get cX7_get 3 (some .long), Cond.methodLink RX7 96 yX7_hasTick, Cond.instanceMethod yX7_hasTick, Cond.selects RX7 yX7_hasTick yX7_hasTick, Cond.code yX7_hasTick cX7_hasTick 2 (some .boolean)]
def wsX7_count_r2 : List Cond := [Cond.constantLong RX7 48 (-2000000005), Cond.methodLink RX7 91 yX7_waits, Cond.instanceMethod yX7_waits, Cond.selects RX7 yX7_waits yX7_waits, Cond.code yX7_waits cX7_waits 2 (some .boolean), Cond.methodLink RX7 109 yX7_rests, Cond.instanceMethod yX7_rests, Cond.selects RX7 yX7_rests yX7_rests, Cond.code yX7_rests cX7_rests 2 (some .boolean)]
def wsX7_count : List Cond := .code yX7_count cX7_count 2 (some .long) :: ((wsX7_count_r1 ++ wsX7_count_r2) ++ wsX70)
def wsJ9_max_f86c9 : List Cond := .code yJ9_max_f86c9 cJ9_max_f86c9 4 (some .long) :: ([])
def wsJ9_min_7cf53 : List Cond := .code yJ9_min_7cf53 cJ9_min_7cf53 2 (some .int) :: ([])
def wsJ9_min_f86c9 : List Cond := .code yJ9_min_f86c9 cJ9_min_f86c9 4 (some .long) :: ([])
def wsL_law_r1 : List Cond := [Cond.classLink RL 7 RX6, Cond.instantiable RX6 4, Cond.initialized RX6, Cond.classLink RL 10 RX7, Cond.instantiable RX7 9, Cond.initialized RX7, Cond.constantLong RL 13 (4294967295), Cond.methodLink RL 9 yX6_init, Cond.instanceMethod yX6_init, Cond.code yX6_init cX6_init 1 none, Cond.methodLink RX6 1 objectInit, Cond.instanceMethod objectInit, Cond.code objectInit ⟨#[0xb1]⟩ 1 none, Cond.classLink RX6 7 RX1, Cond.instantiable RX1 3, Cond.initialized RX1, Cond.fieldLink RX6 10 "DueWheels" "kept" "LDueWheels$Kept;", Cond.classLink RX6 16 RX0, Cond.instantiable RX0 1, Cond.initialized RX0, Cond.fieldLink RX6 19 "DueWheels" "going" "LDueWheels$Going;", Cond.classLink RX6 23 RX3, Cond.instantiable RX3 4, Cond.initialized RX3]
def wsL_law_r2 : List Cond := [Cond.fieldLink RX6 26 "DueWheels" "settling" "LDueWheels$Settling;", Cond.classLink RX6 30 RX4, Cond.instantiable RX4 8, Cond.initialized RX4, Cond.fieldLink RX6 33 "DueWheels" "state" "LDueWheels$State;", Cond.methodLink RX6 9 yX1_init, Cond.instanceMethod yX1_init, Cond.code yX1_init cX1_init 2 none, Cond.methodLink RX1 3 objectInit, Cond.classLink RX1 9 RX4, Cond.fieldLink RX1 11 "DueWheels$Kept" "ring" "[LDueWheels$State;", Cond.instanceMethod yX4_init, Cond.code yX4_init cX4_init 1 none, Cond.methodLink RX4 3 objectInit, Cond.classLink RX4 9 "[[J", Cond.arrayClass .long, Cond.fieldLink RX4 11 "DueWheels$State" "dues" "[[J", Cond.fieldLink RX4 16 "DueWheels$State" "row" "[[J", Cond.instanceMethod yX0_init, Cond.code yX0_init cX0_init 1 none, Cond.methodLink RX0 3 objectInit, Cond.classLink RX0 9 RX2, Cond.instantiable RX2 4, Cond.initialized RX2]
def wsL_law_r3 : List Cond := [Cond.fieldLink RX0 12 "DueWheels$Going" "line" "LDueWheels$Line;", Cond.instanceMethod yX2_init, Cond.code yX2_init cX2_init 1 none, Cond.methodLink RX2 3 objectInit, Cond.arrayClass .int, Cond.fieldLink RX2 9 "DueWheels$Line" "dues" "[I", Cond.fieldLink RX2 15 "DueWheels$Line" "firstKeys" "[J", Cond.fieldLink RX2 19 "DueWheels$Line" "secondKeys" "[J", Cond.instanceMethod yX3_init, Cond.code yX3_init cX3_init 1 none, Cond.methodLink RX3 3 objectInit, Cond.classLink RX3 9 RX2, Cond.fieldLink RX3 12 "DueWheels$Settling" "line" "LDueWheels$Line;", Cond.fieldLink RX3 18 "DueWheels$Settling" "settled" "[J", Cond.fieldLink RX3 22 "DueWheels$Settling" "fast" "[J", Cond.methodLink RL 12 yX7_init, Cond.instanceMethod yX7_init, Cond.code yX7_init cX7_init 1 none, Cond.methodLink RX7 1 objectInit, Cond.fieldLink RX7 7 "DueWheelsModel" "s" "[J", Cond.fieldLink RX7 13 "DueWheelsModel" "before" "[J", Cond.fieldLink RX7 16 "DueWheelsModel" "goers" "[I", Cond.fieldLink RX7 20 "DueWheelsModel" "loose" "[I", Cond.fieldLink RX7 23 "DueWheelsModel" "ticks" "[J"]
def wsL_law_r4 : List Cond := [Cond.arrayClass .boolean, Cond.fieldLink RX7 26 "DueWheelsModel" "isFast" "[Z", Cond.fieldLink RX7 30 "DueWheelsModel" "kept" "I", Cond.methodLink RL 15 yX6_once, Cond.instanceMethod yX6_once, Cond.selects RX6 yX6_once yX6_once, Cond.code yX6_once cX6_once 5 (some .long), Cond.constantLong RX6 41 (-2000000001), Cond.constantLong RX6 47 (-2000000003), Cond.methodLink RX6 37 yX6_isTickAhead, Cond.instanceMethod yX6_isTickAhead, Cond.selects RX6 yX6_isTickAhead yX6_isTickAhead, Cond.code yX6_isTickAhead cX6_isTickAhead 3 (some .boolean), Cond.fieldLink RX6 108 "DueWheels$State" "time" "J", Cond.constantLong RX6 76 (1125899906842624), Cond.methodLink RX6 43 yX4_isFull, Cond.instanceMethod yX4_isFull, Cond.selects RX4 yX4_isFull yX4_isFull, Cond.code yX4_isFull cX4_isFull 1 (some .boolean), Cond.methodLink RX4 47 yX4_leastFree, Cond.instanceMethod yX4_leastFree, Cond.selects RX4 yX4_leastFree yX4_leastFree, Cond.code yX4_leastFree cX4_leastFree 2 (some .int), Cond.fieldLink RX4 32 "DueWheels$State" "end" "I"]
def wsL_law_r5 : List Cond := [Cond.constantLong RX4 45 (-2000000005), Cond.methodLink RX6 49 yX1_keep, Cond.instanceMethod yX1_keep, Cond.selects RX1 yX1_keep yX1_keep, Cond.code yX1_keep cX1_keep 2 none, Cond.fieldLink RX1 18 "DueWheels$Kept" "latest" "I", Cond.fieldLink RX1 26 "DueWheels$Kept" "size" "I", Cond.methodLink RX1 29 Lib.Math.min.name, Cond.static Lib.Math.min.name, Cond.initialized "java/lang/Math", Cond.code Lib.Math.min.name Lib.Math.min.code 2 (some .int), Cond.methodLink RX1 22 yX4_copyOf, Cond.instanceMethod yX4_copyOf, Cond.selects RX4 yX4_copyOf yX4_copyOf, Cond.code yX4_copyOf cX4_copyOf 3 none, Cond.fieldLink RX4 19 "DueWheels$State" "time" "J", Cond.fieldLink RX4 23 "DueWheels$State" "places" "J", Cond.fieldLink RX4 26 "DueWheels$State" "goings" "J", Cond.fieldLink RX4 29 "DueWheels$State" "moves" "J", Cond.fieldLink RX4 36 "DueWheels$State" "rowSize" "I", Cond.methodLink RX4 39 arraycopyName, Cond.native arraycopyName, Cond.static arraycopyName, Cond.initialized "java/lang/System"]
def wsL_law_r6 : List Cond := [Cond.methodLink RX6 53 yX4_open, Cond.instanceMethod yX4_open, Cond.selects RX4 yX4_open yX4_open, Cond.code yX4_open cX4_open 4 (some .int), Cond.methodLink RX4 51 yX4_clear, Cond.instanceMethod yX4_clear, Cond.selects RX4 yX4_clear yX4_clear, Cond.code yX4_clear cX4_clear 3 none, Cond.methodLink RX4 55 yX4_setPlace, Cond.instanceMethod yX4_setPlace, Cond.selects RX4 yX4_setPlace yX4_setPlace, Cond.code yX4_setPlace cX4_setPlace 2 none, Cond.methodLink RX6 57 yX4_setTick, Cond.instanceMethod yX4_setTick, Cond.selects RX4 yX4_setTick yX4_setTick, Cond.code yX4_setTick cX4_setTick 4 none, Cond.constantLong RX4 58 (1125899906842624), Cond.methodLink RX4 60 Lib.MathLoose.min_long.x, Cond.static Lib.MathLoose.min_long.x, Cond.code Lib.MathLoose.min_long.x Lib.MathLoose.min_long.code 4 (some .long), Cond.methodLink RL 19 yX7_once, Cond.instanceMethod yX7_once, Cond.selects RX7 yX7_once yX7_once, Cond.code yX7_once cX7_once 5 (some .long)]
def wsL_law_r7 : List Cond := [Cond.constantLong RX7 73 (-2000000001), Cond.constantLong RX7 75 (-2000000003), Cond.methodLink RX7 69 yX7_isTick, Cond.instanceMethod yX7_isTick, Cond.selects RX7 yX7_isTick yX7_isTick, Cond.code yX7_isTick cX7_isTick 3 (some .boolean), Cond.constantLong RX7 67 (1125899906842624), Cond.methodLink RX7 56 yX7_freeOne, Cond.instanceMethod yX7_freeOne, Cond.selects RX7 yX7_freeOne yX7_freeOne, Cond.code yX7_freeOne cX7_freeOne 2 (some .int), Cond.methodLink RX7 40 yX7_get, Cond.instanceMethod yX7_get, Cond.selects RX7 yX7_get yX7_get, Cond.code yX7_get cX7_get 3 (some .long), Cond.methodLink RX7 77 yX7_set, Cond.instanceMethod yX7_set, Cond.selects RX7 yX7_set yX7_set, Cond.code yX7_set cX7_set 4 (some .int), Cond.constantLong RX7 48 (-2000000005), Cond.methodLink RX7 60 yX7_keep, Cond.instanceMethod yX7_keep, Cond.selects RX7 yX7_keep yX7_keep, Cond.code yX7_keep cX7_keep 2 none]
def wsL_law_r8 : List Cond := [Cond.methodLink RX7 52 yX7_put, Cond.instanceMethod yX7_put, Cond.selects RX7 yX7_put yX7_put, Cond.code yX7_put cX7_put 5 none, Cond.methodLink RX7 63 yX7_line, Cond.instanceMethod yX7_line, Cond.selects RX7 yX7_line yX7_line, Cond.code yX7_line cX7_line 2 none, Cond.methodLink RX7 81 yX7_tick, Cond.instanceMethod yX7_tick, Cond.selects RX7 yX7_tick yX7_tick, Cond.code yX7_tick cX7_tick 4 none, Cond.methodLink RL 20 yX6_often, Cond.instanceMethod yX6_often, Cond.selects RX6 yX6_often yX6_often, Cond.code yX6_often cX6_often 7 (some .long), Cond.methodLink RX6 61 yX6_openRepeated, Cond.instanceMethod yX6_openRepeated, Cond.selects RX6 yX6_openRepeated yX6_openRepeated, Cond.code yX6_openRepeated cX6_openRepeated 9 (some .long), Cond.constant RX6 173 (1000000), Cond.fieldLink RX6 65 "DueWheels$State" "dues" "[[J", Cond.methodLink RX6 73 yX6_isSpan, Cond.static yX6_isSpan]
def wsL_law_r9 : List Cond := [Cond.code yX6_isSpan cX6_isSpan 2 (some .boolean), Cond.methodLink RL 24 yX7_often, Cond.instanceMethod yX7_often, Cond.selects RX7 yX7_often yX7_often, Cond.code yX7_often cX7_often 7 (some .long), Cond.methodLink RX7 87 yX7_repeated, Cond.instanceMethod yX7_repeated, Cond.selects RX7 yX7_repeated yX7_repeated, Cond.code yX7_repeated cX7_repeated 9 (some .long), Cond.constantLong RX7 85 (1000000), Cond.methodLink RX7 36 yX7_isIn, Cond.static yX7_isIn, Cond.code yX7_isIn cX7_isIn 6 (some .boolean), Cond.methodLink RL 25 yX6_loose, Cond.instanceMethod yX6_loose, Cond.selects RX6 yX6_loose yX6_loose, Cond.code yX6_loose cX6_loose 7 (some .long), Cond.methodLink RL 29 yX7_loose, Cond.instanceMethod yX7_loose, Cond.selects RX7 yX7_loose yX7_loose, Cond.code yX7_loose cX7_loose 7 (some .long), Cond.methodLink RL 30 yX6_chained, Cond.instanceMethod yX6_chained, Cond.selects RX6 yX6_chained yX6_chained]
def wsL_law_r10 : List Cond := [Cond.code yX6_chained cX6_chained 8 (some .long), Cond.methodLink RX6 69 yX4_isDue, Cond.instanceMethod yX4_isDue, Cond.selects RX4 yX4_isDue yX4_isDue, Cond.code yX4_isDue cX4_isDue 2 (some .boolean), Cond.methodLink RL 34 yX7_chained, Cond.instanceMethod yX7_chained, Cond.selects RX7 yX7_chained yX7_chained, Cond.code yX7_chained cX7_chained 8 (some .long), Cond.methodLink RX7 44 yX7_isDue, Cond.instanceMethod yX7_isDue, Cond.selects RX7 yX7_isDue yX7_isDue, Cond.code yX7_isDue cX7_isDue 2 (some .boolean), Cond.constantLong RX7 34 (199), Cond.methodLink RL 35 yX6_resting, Cond.instanceMethod yX6_resting, Cond.selects RX6 yX6_resting yX6_resting, Cond.code yX6_resting cX6_resting 7 (some .long), Cond.methodLink RL 38 yX7_resting, Cond.instanceMethod yX7_resting, Cond.selects RX7 yX7_resting yX7_resting, Cond.code yX7_resting cX7_resting 7 (some .long), Cond.methodLink RL 39 yX6_drop, Cond.instanceMethod yX6_drop]
def wsL_law_r11 : List Cond := [Cond.selects RX6 yX6_drop yX6_drop, Cond.code yX6_drop cX6_drop 4 (some .long), Cond.methodLink RX6 78 yX4_tellDropped, Cond.instanceMethod yX4_tellDropped, Cond.selects RX4 yX4_tellDropped yX4_tellDropped, Cond.code yX4_tellDropped cX4_tellDropped 3 none, Cond.methodLink RX4 66 Lib.MathLoose.max_long.x, Cond.static Lib.MathLoose.max_long.x, Cond.code Lib.MathLoose.max_long.x Lib.MathLoose.max_long.code 4 (some .long), Cond.methodLink RX4 69 yX4_setTick, Cond.methodLink RX6 82 yX4_close, Cond.instanceMethod yX4_close, Cond.selects RX4 yX4_close yX4_close, Cond.code yX4_close cX4_close 3 none, Cond.methodLink RL 43 yX7_drop, Cond.instanceMethod yX7_drop, Cond.selects RX7 yX7_drop yX7_drop, Cond.code yX7_drop cX7_drop 7 (some .long), Cond.methodLink RX7 91 yX7_waits, Cond.instanceMethod yX7_waits, Cond.selects RX7 yX7_waits yX7_waits, Cond.code yX7_waits cX7_waits 2 (some .boolean), Cond.methodLink RL 44 yX6_shift, Cond.instanceMethod yX6_shift]
def wsL_law_r12 : List Cond := [Cond.selects RX6 yX6_shift yX6_shift, Cond.code yX6_shift cX6_shift 8 (some .long), Cond.constantLong RX6 85 (-1125899906842624), Cond.constantLong RX6 87 (-2000000005), Cond.constantLong RX6 89 (-2000000002), Cond.methodLink RX6 91 Lib.MathLoose.max_long.x, Cond.methodLink RX6 97 yX4_setPlace, Cond.methodLink RL 48 yX7_shift, Cond.instanceMethod yX7_shift, Cond.selects RX7 yX7_shift yX7_shift, Cond.code yX7_shift cX7_shift 8 (some .long), Cond.constantLong RX7 94 (-1125899906842624), Cond.constantLong RX7 50 (-2000000002), Cond.constantLong RX7 99 (2), Cond.methodLink RX7 96 yX7_hasTick, Cond.instanceMethod yX7_hasTick, Cond.selects RX7 yX7_hasTick yX7_hasTick, Cond.code yX7_hasTick cX7_hasTick 2 (some .boolean), Cond.methodLink RL 49 yX6_chain, Cond.instanceMethod yX6_chain, Cond.selects RX6 yX6_chain yX6_chain, Cond.code yX6_chain cX6_chain 3 (some .long), Cond.constantLong RX6 104 (-2000000004), Cond.methodLink RX6 100 yX4_isBehind]
def wsL_law_r13 : List Cond := [Cond.instanceMethod yX4_isBehind, Cond.selects RX4 yX4_isBehind yX4_isBehind, Cond.code yX4_isBehind cX4_isBehind 6 (some .boolean), Cond.methodLink RL 53 yX7_chain, Cond.instanceMethod yX7_chain, Cond.selects RX7 yX7_chain yX7_chain, Cond.code yX7_chain cX7_chain 3 (some .long), Cond.constantLong RX7 105 (-2000000004), Cond.methodLink RX7 101 yX7_isBehind, Cond.instanceMethod yX7_isBehind, Cond.selects RX7 yX7_isBehind yX7_isBehind, Cond.code yX7_isBehind cX7_isBehind 4 (some .boolean), Cond.methodLink RL 54 yX6_rest, Cond.instanceMethod yX6_rest, Cond.selects RX6 yX6_rest yX6_rest, Cond.code yX6_rest cX6_rest 4 (some .long), Cond.constantLong RX6 106 (4), Cond.methodLink RL 57 yX7_rest, Cond.instanceMethod yX7_rest, Cond.selects RX7 yX7_rest yX7_rest, Cond.code yX7_rest cX7_rest 4 (some .long), Cond.constantLong RX7 107 (4), Cond.methodLink RX7 109 yX7_rests, Cond.instanceMethod yX7_rests]
def wsL_law_r14 : List Cond := [Cond.selects RX7 yX7_rests yX7_rests, Cond.code yX7_rests cX7_rests 2 (some .boolean), Cond.methodLink RL 58 yX6_wake, Cond.instanceMethod yX6_wake, Cond.selects RX6 yX6_wake yX6_wake, Cond.code yX6_wake cX6_wake 4 (some .long), Cond.methodLink RL 61 yX7_wake, Cond.instanceMethod yX7_wake, Cond.selects RX7 yX7_wake yX7_wake, Cond.code yX7_wake cX7_wake 4 (some .long), Cond.methodLink RL 62 yX6_about, Cond.instanceMethod yX6_about, Cond.selects RX6 yX6_about yX6_about, Cond.code yX6_about cX6_about 3 (some .long), Cond.methodLink RL 65 yX7_about, Cond.instanceMethod yX7_about, Cond.selects RX7 yX7_about yX7_about, Cond.code yX7_about cX7_about 3 (some .long), Cond.constantLong RX7 112 (8), Cond.methodLink RL 66 yX6_isOf, Cond.instanceMethod yX6_isOf, Cond.selects RX6 yX6_isOf yX6_isOf, Cond.code yX6_isOf cX6_isOf 5 (some .long), Cond.methodLink RL 69 yX7_isOf]
def wsL_law_r15 : List Cond := [Cond.instanceMethod yX7_isOf, Cond.selects RX7 yX7_isOf yX7_isOf, Cond.code yX7_isOf cX7_isOf 5 (some .long), Cond.methodLink RL 70 yX6_go, Cond.instanceMethod yX6_go, Cond.selects RX6 yX6_go yX6_go, Cond.code yX6_go cX6_go 3 (some .long), Cond.constantLong RX6 112 (1125899906842623), Cond.methodLink RX6 114 yX0_goOn, Cond.instanceMethod yX0_goOn, Cond.selects RX0 yX0_goOn yX0_goOn, Cond.code yX0_goOn cX0_goOn 6 none, Cond.fieldLink RX0 18 "DueWheels$State" "rowSize" "I", Cond.methodLink RX0 24 yX0_passTick, Cond.instanceMethod yX0_passTick, Cond.selects RX0 yX0_passTick yX0_passTick, Cond.code yX0_passTick cX0_passTick 7 (some .boolean), Cond.constantLong RX0 32 (-2000000005), Cond.fieldLink RX0 41 "DueWheels$Line" "size" "I", Cond.fieldLink RX0 44 "DueWheels$Line" "dues" "[I", Cond.methodLink RX0 28 yX4_leastTick, Cond.instanceMethod yX4_leastTick, Cond.selects RX4 yX4_leastTick yX4_leastTick, Cond.code yX4_leastTick cX4_leastTick 6 (some .long)]
def wsL_law_r16 : List Cond := [Cond.methodLink RX0 34 yX0_moveTime, Cond.instanceMethod yX0_moveTime, Cond.selects RX0 yX0_moveTime yX0_moveTime, Cond.code yX0_moveTime cX0_moveTime 8 none, Cond.fieldLink RX0 52 "DueWheels$State" "time" "J", Cond.fieldLink RX0 56 "DueWheels$State" "end" "I", Cond.fieldLink RX0 59 "DueWheels$State" "dues" "[[J", Cond.fieldLink RX0 68 "DueWheels$State" "moves" "J", Cond.methodLink RX0 62 yX5_movesDown, Cond.static yX5_movesDown, Cond.initialized RX5, Cond.code yX5_movesDown cX5_movesDown 12 (some .int), Cond.methodLink RX5 11 yX5_wheelOf, Cond.static yX5_wheelOf, Cond.code yX5_wheelOf cX5_wheelOf 6 (some .int), Cond.methodLink RX0 38 yX0_findGoers, Cond.instanceMethod yX0_findGoers, Cond.selects RX0 yX0_findGoers yX0_findGoers, Cond.code yX0_findGoers cX0_findGoers 6 none, Cond.methodLink RX0 71 yX0_isFast, Cond.instanceMethod yX0_isFast, Cond.selects RX0 yX0_isFast yX0_isFast, Cond.code yX0_isFast cX0_isFast 5 (some .boolean), Cond.constantLong RX0 86 (2)]
def wsL_law_r17 : List Cond := [Cond.methodLink RX0 74 yX0_isLooseFrom, Cond.instanceMethod yX0_isLooseFrom, Cond.selects RX0 yX0_isLooseFrom yX0_isLooseFrom, Cond.code yX0_isLooseFrom cX0_isLooseFrom 5 (some .boolean), Cond.methodLink RX0 78 yX0_rankOf, Cond.instanceMethod yX0_rankOf, Cond.selects RX0 yX0_rankOf yX0_rankOf, Cond.code yX0_rankOf cX0_rankOf 3 (some .long), Cond.constantLong RX0 88 (5), Cond.methodLink RX0 82 yX2_add, Cond.instanceMethod yX2_add, Cond.selects RX2 yX2_add yX2_add, Cond.code yX2_add cX2_add 7 none, Cond.fieldLink RX2 22 "DueWheels$Line" "size" "I", Cond.methodLink RX2 26 yX2_isAhead, Cond.instanceMethod yX2_isAhead, Cond.selects RX2 yX2_isAhead yX2_isAhead, Cond.code yX2_isAhead cX2_isAhead 6 (some .boolean), Cond.methodLink RX0 48 yX0_letGo, Cond.instanceMethod yX0_letGo, Cond.selects RX0 yX0_letGo yX0_letGo, Cond.code yX0_letGo cX0_letGo 3 none, Cond.fieldLink RX0 90 "DueWheels$State" "row" "[[J", Cond.fieldLink RX0 93 "DueWheels$State" "goings" "J"]
def wsL_law_r18 : List Cond := [Cond.methodLink RX0 96 yX4_tellGone, Cond.instanceMethod yX4_tellGone, Cond.selects RX4 yX4_tellGone yX4_tellGone, Cond.code yX4_tellGone cX4_tellGone 3 none, Cond.methodLink RX0 100 yX0_goesAgain, Cond.instanceMethod yX0_goesAgain, Cond.selects RX0 yX0_goesAgain yX0_goesAgain, Cond.code yX0_goesAgain cX0_goesAgain 5 (some .boolean), Cond.constantLong RX0 110 (1125899906842624), Cond.methodLink RX0 104 yX0_setAgain, Cond.instanceMethod yX0_setAgain, Cond.selects RX0 yX0_setAgain yX0_setAgain, Cond.code yX0_setAgain cX0_setAgain 5 none, Cond.methodLink RX0 112 yX4_setTick, Cond.methodLink RX0 107 yX4_close, Cond.methodLink RL 74 yX7_go, Cond.instanceMethod yX7_go, Cond.selects RX7 yX7_go yX7_go, Cond.code yX7_go cX7_go 6 (some .long), Cond.constantLong RX7 141 (1125899906842623), Cond.fieldLink RX7 124 "DueWheelsModel" "goerCount" "I", Cond.constantLong RX7 151 (300), Cond.methodLink RX7 143 yX7_nextTick, Cond.instanceMethod yX7_nextTick]
def wsL_law_r19 : List Cond := [Cond.selects RX7 yX7_nextTick yX7_nextTick, Cond.code yX7_nextTick cX7_nextTick 4 (some .long), Cond.methodLink RX7 147 yX7_findAll, Cond.instanceMethod yX7_findAll, Cond.selects RX7 yX7_findAll yX7_findAll, Cond.code yX7_findAll cX7_findAll 3 none, Cond.methodLink RX7 127 yX7_find, Cond.instanceMethod yX7_find, Cond.selects RX7 yX7_find yX7_find, Cond.code yX7_find cX7_find 9 none, Cond.methodLink RX7 153 yX7_pass, Cond.instanceMethod yX7_pass, Cond.selects RX7 yX7_pass yX7_pass, Cond.code yX7_pass cX7_pass 5 none, Cond.methodLink RX7 120 yX7_movesOf, Cond.static yX7_movesOf, Cond.code yX7_movesOf cX7_movesOf 11 (some .int), Cond.methodLink RX7 114 yX7_turnOf, Cond.static yX7_turnOf, Cond.code yX7_turnOf cX7_turnOf 4 (some .long), Cond.methodLink RX7 156 yX7_goAll, Cond.instanceMethod yX7_goAll, Cond.selects RX7 yX7_goAll yX7_goAll, Cond.code yX7_goAll cX7_goAll 6 none]
def wsL_law_r20 : List Cond := [Cond.constantLong RX7 131 (2800), Cond.constantLong RX7 133 (3), Cond.methodLink RX7 135 yX7_tell, Cond.instanceMethod yX7_tell, Cond.selects RX7 yX7_tell yX7_tell, Cond.code yX7_tell cX7_tell 7 none, Cond.methodLink RX7 138 yX7_goesOn, Cond.instanceMethod yX7_goesOn, Cond.selects RX7 yX7_goesOn yX7_goesOn, Cond.code yX7_goesOn cX7_goesOn 10 none, Cond.methodLink RL 75 yX6_went, Cond.instanceMethod yX6_went, Cond.selects RX6 yX6_went yX6_went, Cond.code yX6_went cX6_went 3 (some .long), Cond.fieldLink RX6 118 "DueWheels$State" "rowSize" "I", Cond.fieldLink RX6 122 "DueWheels$State" "row" "[[J", Cond.methodLink RL 78 yX7_went, Cond.instanceMethod yX7_went, Cond.selects RX7 yX7_went yX7_went, Cond.code yX7_went cX7_went 3 (some .long), Cond.methodLink RL 79 yX6_next, Cond.instanceMethod yX6_next, Cond.selects RX6 yX6_next yX6_next, Cond.code yX6_next cX6_next 1 (some .long)]
def wsL_law_r21 : List Cond := [Cond.methodLink RX6 125 yX4_leastTick, Cond.methodLink RL 83 yX7_next, Cond.instanceMethod yX7_next, Cond.selects RX7 yX7_next yX7_next, Cond.code yX7_next cX7_next 3 (some .long), Cond.methodLink RL 84 yX6_fewest, Cond.instanceMethod yX6_fewest, Cond.selects RX6 yX6_fewest yX6_fewest, Cond.code yX6_fewest cX6_fewest 1 (some .long), Cond.methodLink RX6 129 yX3_plan, Cond.instanceMethod yX3_plan, Cond.selects RX3 yX3_plan yX3_plan, Cond.code yX3_plan cX3_plan 9 (some .int), Cond.fieldLink RX3 32 "DueWheels$Line" "size" "I", Cond.fieldLink RX3 36 "DueWheels$Line" "dues" "[I", Cond.fieldLink RX3 40 "DueWheels$State" "dues" "[[J", Cond.fieldLink RX3 45 "DueWheels$State" "time" "J", Cond.methodLink RX3 49 Lib.MathLoose.max_long.x, Cond.constantLong RX3 58 (-2000000005), Cond.methodLink RX3 25 yX3_findFast, Cond.instanceMethod yX3_findFast, Cond.selects RX3 yX3_findFast yX3_findFast, Cond.code yX3_findFast cX3_findFast 3 none, Cond.fieldLink RX3 68 "DueWheels$Settling" "fastSize" "I"]
def wsL_law_r22 : List Cond := [Cond.fieldLink RX3 71 "DueWheels$State" "end" "I", Cond.constantLong RX3 74 (2), Cond.methodLink RX3 60 yX3_addFast, Cond.instanceMethod yX3_addFast, Cond.selects RX3 yX3_addFast yX3_addFast, Cond.code yX3_addFast cX3_addFast 3 none, Cond.methodLink RX3 29 yX3_findLoose, Cond.instanceMethod yX3_findLoose, Cond.selects RX3 yX3_findLoose yX3_findLoose, Cond.code yX3_findLoose cX3_findLoose 3 none, Cond.methodLink RX3 76 yX2_add, Cond.methodLink RX3 55 yX3_leastFast, Cond.instanceMethod yX3_leastFast, Cond.selects RX3 yX3_leastFast yX3_leastFast, Cond.code yX3_leastFast cX3_leastFast 8 (some .long), Cond.methodLink RL 87 yX7_fewest, Cond.instanceMethod yX7_fewest, Cond.selects RX7 yX7_fewest yX7_fewest, Cond.code yX7_fewest cX7_fewest 1 (some .long), Cond.methodLink RX7 172 yX7_settled, Cond.instanceMethod yX7_settled, Cond.selects RX7 yX7_settled yX7_settled, Cond.code yX7_settled cX7_settled 6 (some .int), Cond.fieldLink RX7 159 "DueWheelsModel" "looseCount" "I"]
def wsL_law_r23 : List Cond := [Cond.methodLink RX7 165 yX7_gather, Cond.instanceMethod yX7_gather, Cond.selects RX7 yX7_gather yX7_gather, Cond.code yX7_gather cX7_gather 3 none, Cond.methodLink RX7 162 yX7_isAhead, Cond.instanceMethod yX7_isAhead, Cond.selects RX7 yX7_isAhead yX7_isAhead, Cond.code yX7_isAhead cX7_isAhead 3 (some .boolean), Cond.methodLink RX7 168 yX7_fastIn, Cond.instanceMethod yX7_fastIn, Cond.selects RX7 yX7_fastIn yX7_fastIn, Cond.code yX7_fastIn cX7_fastIn 8 (some .long), Cond.methodLink RL 88 yX6_settle, Cond.instanceMethod yX6_settle, Cond.selects RX6 yX6_settle yX6_settle, Cond.code yX6_settle cX6_settle 1 (some .long), Cond.methodLink RX6 133 yX3_carryOut, Cond.instanceMethod yX3_carryOut, Cond.selects RX3 yX3_carryOut yX3_carryOut, Cond.code yX3_carryOut cX3_carryOut 4 (some .int), Cond.methodLink RX3 64 yX4_setTick, Cond.methodLink RL 91 yX7_settle, Cond.instanceMethod yX7_settle, Cond.selects RX7 yX7_settle yX7_settle]
def wsL_law_r24 : List Cond := [Cond.code yX7_settle cX7_settle 5 (some .long), Cond.methodLink RL 92 yX6_lies, Cond.instanceMethod yX6_lies, Cond.selects RX6 yX6_lies yX6_lies, Cond.code yX6_lies cX6_lies 6 (some .long), Cond.methodLink RX6 136 yX5_wheelOf, Cond.methodLink RX6 142 yX5_slotOf, Cond.static yX5_slotOf, Cond.code yX5_slotOf cX5_slotOf 3 (some .int), Cond.constantLong RX5 9 (63), Cond.methodLink RL 95 yX7_lies, Cond.instanceMethod yX7_lies, Cond.selects RX7 yX7_lies yX7_lies, Cond.code yX7_lies cX7_lies 4 (some .long), Cond.methodLink RX7 175 yX7_wheelOf, Cond.instanceMethod yX7_wheelOf, Cond.selects RX7 yX7_wheelOf yX7_wheelOf, Cond.code yX7_wheelOf cX7_wheelOf 4 (some .int), Cond.methodLink RX7 179 yX7_slotOf, Cond.static yX7_slotOf, Cond.code yX7_slotOf cX7_slotOf 3 (some .int), Cond.constantLong RX7 118 (63), Cond.methodLink RL 96 yX6_bits, Cond.instanceMethod yX6_bits]
def wsL_law_r25 : List Cond := [Cond.selects RX6 yX6_bits yX6_bits, Cond.code yX6_bits cX6_bits 7 (some .long), Cond.fieldLink RX6 146 "DueWheels$State" "end" "I", Cond.methodLink RL 99 yX7_bits, Cond.instanceMethod yX7_bits, Cond.selects RX7 yX7_bits yX7_bits, Cond.code yX7_bits cX7_bits 5 (some .long), Cond.methodLink RL 100 yX6_many, Cond.instanceMethod yX6_many, Cond.selects RX6 yX6_many yX6_many, Cond.code yX6_many cX6_many 6 (some .long), Cond.methodLink RX6 149 yX5_isSlot, Cond.static yX5_isSlot, Cond.code yX5_isSlot cX5_isSlot 2 (some .boolean), Cond.methodLink RX6 152 yX4_liesIn, Cond.instanceMethod yX4_liesIn, Cond.selects RX4 yX4_liesIn yX4_liesIn, Cond.code yX4_liesIn cX4_liesIn 6 (some .boolean), Cond.methodLink RX4 73 yX5_wheelOf, Cond.methodLink RX4 79 yX5_slotOf, Cond.methodLink RL 103 yX7_many, Cond.instanceMethod yX7_many, Cond.selects RX7 yX7_many yX7_many, Cond.code yX7_many cX7_many 5 (some .long)]
def wsL_law_r26 : List Cond := [Cond.methodLink RX7 185 yX7_isSlot, Cond.static yX7_isSlot, Cond.code yX7_isSlot cX7_isSlot 2 (some .boolean), Cond.constantLong RX7 183 (5), Cond.methodLink RX7 188 yX7_liesIn, Cond.instanceMethod yX7_liesIn, Cond.selects RX7 yX7_liesIn yX7_liesIn, Cond.code yX7_liesIn cX7_liesIn 4 (some .boolean), Cond.methodLink RL 104 yX6_in, Cond.instanceMethod yX6_in, Cond.selects RX6 yX6_in yX6_in, Cond.code yX6_in cX6_in 6 (some .long), Cond.methodLink RL 108 yX7_in, Cond.instanceMethod yX7_in, Cond.selects RX7 yX7_in yX7_in, Cond.code yX7_in cX7_in 6 (some .long), Cond.methodLink RL 109 yX6_now, Cond.instanceMethod yX6_now, Cond.selects RX6 yX6_now yX6_now, Cond.code yX6_now cX6_now 1 (some .long), Cond.methodLink RL 112 yX7_now, Cond.instanceMethod yX7_now, Cond.selects RX7 yX7_now yX7_now, Cond.code yX7_now cX7_now 1 (some .long)]
def wsL_law_r27 : List Cond := [Cond.methodLink RL 113 yX6_undo, Cond.instanceMethod yX6_undo, Cond.selects RX6 yX6_undo yX6_undo, Cond.code yX6_undo cX6_undo 1 (some .long), Cond.fieldLink RX6 156 "DueWheels$Kept" "size" "I", Cond.methodLink RX6 159 yX1_takeBack, Cond.instanceMethod yX1_takeBack, Cond.selects RX1 yX1_takeBack yX1_takeBack, Cond.code yX1_takeBack cX1_takeBack 3 (some (.object "DueWheels$State")), Cond.methodLink RL 116 yX7_undo, Cond.instanceMethod yX7_undo, Cond.selects RX7 yX7_undo yX7_undo, Cond.code yX7_undo cX7_undo 2 (some .long), Cond.methodLink RL 117 yX6_count, Cond.instanceMethod yX6_count, Cond.selects RX6 yX6_count yX6_count, Cond.code yX6_count cX6_count 2 (some .long), Cond.fieldLink RX6 167 "DueWheels$State" "goings" "J", Cond.fieldLink RX6 170 "DueWheels$State" "moves" "J", Cond.methodLink RX6 163 yX4_duesWith, Cond.instanceMethod yX4_duesWith, Cond.selects RX4 yX4_duesWith yX4_duesWith, Cond.code yX4_duesWith cX4_duesWith 5 (some .long), Cond.methodLink RL 120 yX7_count]
def wsL_law_r28 : List Cond := [Cond.instanceMethod yX7_count, Cond.selects RX7 yX7_count yX7_count, Cond.code yX7_count cX7_count 2 (some .long), Cond.methodLink RX7 192 yX7_manyOf, Cond.instanceMethod yX7_manyOf, Cond.selects RX7 yX7_manyOf yX7_manyOf, Cond.code yX7_manyOf cX7_manyOf 5 (some .int)]
def wsL_law : List Cond := (wsL_law_r1 ++ (wsL_law_r2 ++ (wsL_law_r3 ++ (wsL_law_r4 ++ (wsL_law_r5 ++ (wsL_law_r6 ++ (wsL_law_r7 ++ (wsL_law_r8 ++ (wsL_law_r9 ++ (wsL_law_r10 ++ (wsL_law_r11 ++ (wsL_law_r12 ++ (wsL_law_r13 ++ (wsL_law_r14 ++ (wsL_law_r15 ++ (wsL_law_r16 ++ (wsL_law_r17 ++ (wsL_law_r18 ++ (wsL_law_r19 ++ (wsL_law_r20 ++ (wsL_law_r21 ++ (wsL_law_r22 ++ (wsL_law_r23 ++ (wsL_law_r24 ++ (wsL_law_r25 ++ (wsL_law_r26 ++ (wsL_law_r27 ++ wsL_law_r28))))))))))))))))))))))))))) ++ wsX60 ++ wsX70 ++ wsX10 ++ wsX00 ++ wsX30 ++ wsX40 ++ wsX20 ++ ([] : List Cond)
theorem dJ9_max_f86c9_0 : decode cJ9_max_f86c9 0 = .ok (.lload_n 0, 1) := by decide +kernel
theorem dJ9_max_f86c9_1 : decode cJ9_max_f86c9 1 = .ok (.lload_n 2, 1) := by decide +kernel
theorem dJ9_max_f86c9_2 : decode cJ9_max_f86c9 2 = .ok (.lcmp, 1) := by decide +kernel
theorem dJ9_max_f86c9_3 : decode cJ9_max_f86c9 3 = .ok (.ifCond .lt 7, 3) := by decide +kernel
theorem dJ9_max_f86c9_6 : decode cJ9_max_f86c9 6 = .ok (.lload_n 0, 1) := by decide +kernel
theorem dJ9_max_f86c9_7 : decode cJ9_max_f86c9 7 = .ok (.goto 4, 3) := by decide +kernel
theorem dJ9_max_f86c9_10 : decode cJ9_max_f86c9 10 = .ok (.lload_n 2, 1) := by decide +kernel
theorem dJ9_max_f86c9_11 : decode cJ9_max_f86c9 11 = .ok (.lreturn, 1) := by decide +kernel
theorem dJ9_min_7cf53_0 : decode cJ9_min_7cf53 0 = .ok (.iload_n 0, 1) := by decide +kernel
theorem dJ9_min_7cf53_1 : decode cJ9_min_7cf53 1 = .ok (.iload_n 1, 1) := by decide +kernel
theorem dJ9_min_7cf53_2 : decode cJ9_min_7cf53 2 = .ok (.if_icmp .gt 7, 3) := by decide +kernel
theorem dJ9_min_7cf53_5 : decode cJ9_min_7cf53 5 = .ok (.iload_n 0, 1) := by decide +kernel
theorem dJ9_min_7cf53_6 : decode cJ9_min_7cf53 6 = .ok (.goto 4, 3) := by decide +kernel
theorem dJ9_min_7cf53_9 : decode cJ9_min_7cf53 9 = .ok (.iload_n 1, 1) := by decide +kernel
theorem dJ9_min_7cf53_10 : decode cJ9_min_7cf53 10 = .ok (.ireturn, 1) := by decide +kernel
theorem dJ9_min_f86c9_0 : decode cJ9_min_f86c9 0 = .ok (.lload_n 0, 1) := by decide +kernel
theorem dJ9_min_f86c9_1 : decode cJ9_min_f86c9 1 = .ok (.lload_n 2, 1) := by decide +kernel
theorem dJ9_min_f86c9_2 : decode cJ9_min_f86c9 2 = .ok (.lcmp, 1) := by decide +kernel
theorem dJ9_min_f86c9_3 : decode cJ9_min_f86c9 3 = .ok (.ifCond .gt 7, 3) := by decide +kernel
theorem dJ9_min_f86c9_6 : decode cJ9_min_f86c9 6 = .ok (.lload_n 0, 1) := by decide +kernel
theorem dJ9_min_f86c9_7 : decode cJ9_min_f86c9 7 = .ok (.goto 4, 3) := by decide +kernel
theorem dJ9_min_f86c9_10 : decode cJ9_min_f86c9 10 = .ok (.lload_n 2, 1) := by decide +kernel
theorem dJ9_min_f86c9_11 : decode cJ9_min_f86c9 11 = .ok (.lreturn, 1) := by decide +kernel
abbrev vwCl : List vw_C := [(RX0, TX0, 1), (RX1, TX1, 3), (RX2, TX2, 4), (RX3, TX3, 4), (RX4, TX4, 8), (RX6, TX6, 4), (RX7, TX7, 9)]
end
section
/-! own rows: a world of cells by number; the class's world, the reference's world -/
def xw (n : Nat) (ad : Nat → Nat) (f : Nat → va_E) : va_W := (List.range n).map (fun k => (ad k, f k))
theorem xw_at {n : Nat} {ad : Nat → Nat} {f : Nat → va_E} {k : Nat} (h : k < n) : (xw n ad f)[k]? = some (ad k, f k) := by
  simp [xw, List.getElem?_map, List.getElem?_range h]
theorem xw_of {n : Nat} {ad : Nat → Nat} {f : Nat → va_E} {k : Nat} {q : Nat × va_E} (h : (xw n ad f)[k]? = some q) : k < n ∧ q = (ad k, f k) := by
  have hk : k < n := by
    have := (List.getElem?_eq_some_iff.mp h).1
    simpa [xw] using this
  rw [xw_at hk] at h
  exact ⟨hk, (Option.some.inj h).symm⟩
def xw_D (n : Nat) (ad : Nat → Nat) (A : Nat → Prop) : Prop := (∀ i j, i < n → j < n → ad i = ad j → i = j) ∧ ∀ i, i < n → A (ad i)
theorem xw_D.va {n : Nat} {ad : Nat → Nat} {A : Nat → Prop} (h : xw_D n ad A) (f : Nat → va_E) : va_D A (xw n ad f) := by
  refine ⟨fun i j p q hi hj hpq => ?_, fun k q hk => ?_⟩
  · obtain ⟨h1, rfl⟩ := xw_of hi
    obtain ⟨h2, rfl⟩ := xw_of hj
    exact h.1 i j h1 h2 hpq
  · obtain ⟨h1, rfl⟩ := xw_of hk
    exact h.2 k h1
theorem xw_set {n : Nat} {ad : Nat → Nat} {f g : Nat → va_E} {k : Nat} {e : va_E} (hg : ∀ i, i < n → g i = va_up f k e i) : (xw n ad f).set k (ad k, e) = xw n ad g := by
  apply List.ext_getElem?
  intro i
  by_cases hi : i < n
  · rw [xw_at hi, hg i hi]
    by_cases hk : i = k
    · subst hk
      have hl : i < (xw n ad f).length := by simpa [xw] using hi
      rw [List.getElem?_set_self hl]
      simp [va_up]
    · rw [List.getElem?_set_ne (Ne.symm hk), xw_at hi]
      simp [va_up, hk]
  · have h1 : (xw n ad g)[i]? = none := List.getElem?_eq_none (by simpa [xw] using Nat.le_of_not_lt hi)
    have h2 : ((xw n ad f).set k (ad k, e))[i]? = none := List.getElem?_eq_none (by simpa [xw] using Nat.le_of_not_lt hi)
    rw [h1, h2]
theorem x_eta {α : Type} (f : Nat → α) (j : Nat) : va_up f j (f j) = f := by
  funext i
  by_cases h : i = j
  · subst h; simp [va_up]
  · simp [va_up, h]
theorem x_in (i : Int32) (n : Nat) (h : (decide (i < 0) || decide (n ≤ i.toNatClampNeg)) = false) : vp_in i n := by
  intro q
  rcases q with q | q
  · simp [q] at h
  · simp [q] at h
abbrev x_q (g : Nat → Option Nat) : (Nat → Int32) ⊕ (Nat → Int64) ⊕ (Nat → UInt32) ⊕ (Nat → UInt64) ⊕ (Nat → Option Nat) := .inr (.inr (.inr (.inr g)))
/-- what holds all through a method's body -/
def xC (p : Program) (s : State) (m : MethodId) (args : Array Value) (meth : Method) (c : Code) (cc : ByteArray) (nL : Nat) (ret : Option FieldType) (own : String) (ws : List Cond) (D : va_G) (tys : List (ClassId × FieldType)) : Prop :=
  p.tables.exec = Jvm.exec ∧ c.code = cc ∧ c.maxLocals = nL ∧ meth.sig.returnType = ret ∧ meth.locks = false ∧ s.vm.findClass own = some m.cls ∧ (∀ w ∈ ws, w.before args s = true) ∧ va_K D vwCl tys s
section XR
variable {p : Program} {l : Launch} {e : Env} {R : Room} {s : State} {m : MethodId} {args : Array Value} {below : List Frame} {meth : Method} {c : Code} {H : Heap} {locs : List Loc} {cells slots : Nat} {Q : State → Prop}
variable {cc : ByteArray} {pc : Nat} {ls : Array Slot} {rest : List Value} {D : va_G} {A : Nat → Prop} {tys : List (ClassId × FieldType)} {H0 : Heap} {n : Nat} {ad : Nat → Nat} {f : Nat → va_E}
theorem xr_get (hexec : p.tables.exec = Jvm.exec) (hb : c.code = cc) {own ref C : String} {T : u_T} {N ci index : Nat} {Ts : List Cond} (hts : ∀ w ∈ Ts, w.before args s = true) (hin : ∀ w ∈ u_ws C T N, w ∈ Ts) (hown : s.vm.findClass own = some m.cls) (hK : va_K D vwCl tys s) (hP : va_P D vwCl (xw n ad f) H) (q : Nat) (hq : q < n) {fs : List Value} (he : f q = .inr (ci, fs)) (hc : vwCl[ci]? = some (C, T, N)) (k : Nat) (hk : k < N) (hlink : Cond.fieldLink own index ref (T k).2.1 (T k).2.2.1 ∈ Ts) (hsame : ref = (T k).1) {v : Value} (hv : fs[k]? = some v) (hdg : decode cc pc = .ok (.getfield index, 3))
    (kk : W p l e R s m args below meth c H locs cells slots Q (F0 m (pc + 3) ls (v :: rest))) : W p l e R s m args below meth c H locs cells slots Q (F0 m pc ls (.ref (ad q) :: rest)) :=
  va_get hexec hb hts hin hown hK hP q (by rw [xw_at hq, he]) hc k hk (hts _ hlink) (fun _ h => hsame ▸ h) hv hdg kk
theorem xr_put (hexec : p.tables.exec = Jvm.exec) (hb : c.code = cc) {own ref C : String} {T : u_T} {N ci index : Nat} {Ts : List Cond} (hts : ∀ w ∈ Ts, w.before args s = true) (hin : ∀ w ∈ u_ws C T N, w ∈ Ts) (ty0 : Nat → FieldType) (hty : ∀ k, k < N → parseFieldDescriptor (T k).2.2.1 = some (ty0 k)) (hnm : ∀ a, a < N → ∀ b, b < N → a ≠ b → (T a).2.1 ≠ (T b).2.1) (hown : s.vm.findClass own = some m.cls) (hK : va_K D vwCl tys s) (hP : va_P D vwCl (xw n ad f) H) (hD : xw_D n ad A) (hS : va_S A H0 H locs) (q : Nat) (hq : q < n) {fs : List Value} (he : f q = .inr (ci, fs)) (hc : vwCl[ci]? = some (C, T, N)) (k : Nat) (hk : k < N) (hlink : Cond.fieldLink own index ref (T k).2.1 (T k).2.2.1 ∈ Ts) (hsame : ref = (T k).1) (hfin : (T k).2.2.2 = false) {ty : FieldType} {v : Value} (hd : parseFieldDescriptor (T k).2.2.1 = some ty) (hn : narrow ty v = v) (hfit : fits ty v = true) (hl : k < fs.length) (hdg : decode cc pc = .ok (.putfield index, 3)) {g : Nat → va_E} (hg : ∀ i, i < n → g i = va_up f q (.inr (ci, fs.set k v)) i)
    (kk : ∀ (H1 : Heap) (locs1 : List Loc), va_P D vwCl (xw n ad g) H1 → va_S A H0 H1 locs1 → W p l e R s m args below meth c H1 locs1 cells slots Q (F0 m (pc + 3) ls rest)) : W p l e R s m args below meth c H locs cells slots Q (F0 m pc ls (v :: .ref (ad q) :: rest)) :=
  va_put hexec hb hts hin ty0 hty hnm hown hK hP (hD.va f) hS q (by rw [xw_at hq, he]) hc k hk (hts _ hlink) (fun _ h => hsame ▸ h) hfin hd hn hfit hl hdg (fun H1 locs1 hP1 _ hS1 => kk H1 locs1 (by rw [xw_set hg] at hP1; exact hP1) hS1)
theorem xr_iald (hexec : p.tables.exec = Jvm.exec) (hb : c.code = cc) (hK : va_K D vwCl tys s) (hP : va_P D vwCl (xw n ad f) H) (q t0 : Nat) (hq : q < n) {cA : ClassId} {N : Nat} {a : Nat → Int32} (he : f q = .inl (cA, N, .inl a)) (ht : tys[t0]? = some (cA, .int)) {i : Int32} {k : Nat} (hk : i.toNatClampNeg = k) (hin : vp_in i N) (hdg : decode cc pc = .ok (.iaload, 1))
    (kk : W p l e R s m args below meth c H locs cells slots Q (F0 m (pc + 1) ls (.int (a k) :: rest))) : W p l e R s m args below meth c H locs cells slots Q (F0 m pc ls (.int i :: .ref (ad q) :: rest)) := by
  subst hk
  exact va_iald hexec hb hK hP q t0 (by rw [xw_at hq, he]) ht hin hdg kk
theorem xr_zald (hexec : p.tables.exec = Jvm.exec) (hb : c.code = cc) (hK : va_K D vwCl tys s) (hP : va_P D vwCl (xw n ad f) H) (q t0 : Nat) (hq : q < n) {cA : ClassId} {N : Nat} {a : Nat → Int32} (he : f q = .inl (cA, N, .inl a)) (ht : tys[t0]? = some (cA, .boolean)) {i : Int32} {k : Nat} (hk : i.toNatClampNeg = k) (hin : vp_in i N) (hdg : decode cc pc = .ok (.baload, 1))
    (kk : W p l e R s m args below meth c H locs cells slots Q (F0 m (pc + 1) ls (.int (a k) :: rest))) : W p l e R s m args below meth c H locs cells slots Q (F0 m pc ls (.int i :: .ref (ad q) :: rest)) := by
  subst hk
  exact va_zald hexec hb hK hP q t0 (by rw [xw_at hq, he]) ht hin hdg kk
theorem xr_lald (hexec : p.tables.exec = Jvm.exec) (hb : c.code = cc) (hK : va_K D vwCl tys s) (hP : va_P D vwCl (xw n ad f) H) (q t0 : Nat) (hq : q < n) {cA : ClassId} {N : Nat} {a : Nat → Int64} (he : f q = .inl (cA, N, .inr (.inl a))) (ht : tys[t0]? = some (cA, .long)) {i : Int32} {k : Nat} (hk : i.toNatClampNeg = k) (hin : vp_in i N) (hdg : decode cc pc = .ok (.laload, 1))
    (kk : W p l e R s m args below meth c H locs cells slots Q (F0 m (pc + 1) ls (.long (a k) :: rest))) : W p l e R s m args below meth c H locs cells slots Q (F0 m pc ls (.int i :: .ref (ad q) :: rest)) := by
  subst hk
  exact va_lald hexec hb hK hP q t0 (by rw [xw_at hq, he]) ht hin hdg kk
theorem xr_aald (hexec : p.tables.exec = Jvm.exec) (hb : c.code = cc) (hK : va_K D vwCl tys s) (hP : va_P D vwCl (xw n ad f) H) (q t0 : Nat) (hq : q < n) {cA : ClassId} {N : Nat} {a : Nat → Option Nat} {ty : FieldType} (he : f q = .inl (cA, N, x_q a)) (ht : tys[t0]? = some (cA, ty)) (hty : ty.isReference = true) {i : Int32} {k b : Nat} (hk : i.toNatClampNeg = k) (hin : vp_in i N) (hab : a k = some b) (hdg : decode cc pc = .ok (.aaload, 1))
    (kk : W p l e R s m args below meth c H locs cells slots Q (F0 m (pc + 1) ls (.ref b :: rest))) : W p l e R s m args below meth c H locs cells slots Q (F0 m pc ls (.int i :: .ref (ad q) :: rest)) := by
  subst hk
  have hlt : i.toNatClampNeg < N := Nat.not_le.mp fun z => hin (Or.inr z)
  have hcell : H[ad q]? = some (vp_cell cA (N, x_q a)) := hP q (ad q, .inl (cA, N, x_q a)) (by rw [xw_at hq, he])
  exact W.aald (v := .ref b) (ty := ty) hexec hb hcell ((hK.2 t0 _ ht).1 N (fun j => va_rf (a j))) hty (fun z => by cases z) (by show ¬ (i < 0 ∨ (arrV _ _ _).slots.size ≤ _); rw [arrV_size]; exact hin) (by show (arrV _ _ _).slots[_]? = _; rw [arrV_read _ _ hlt, hab]; rfl) rfl rfl hdg kk
theorem xr_iast (hexec : p.tables.exec = Jvm.exec) (hb : c.code = cc) (hK : va_K D vwCl tys s) (hP : va_P D vwCl (xw n ad f) H) (hD : xw_D n ad A) (hS : va_S A H0 H locs) (q t0 : Nat) (hq : q < n) {cA : ClassId} {N : Nat} {a : Nat → Int32} (he : f q = .inl (cA, N, .inl a)) (ht : tys[t0]? = some (cA, .int)) {i x : Int32} {k : Nat} (hk : i.toNatClampNeg = k) (hin : vp_in i N) (hdg : decode cc pc = .ok (.iastore, 1)) {g : Nat → va_E} (hg : ∀ j, j < n → g j = va_up f q (.inl (cA, N, .inl (upd a k x))) j)
    (kk : ∀ (H1 : Heap) (locs1 : List Loc), va_P D vwCl (xw n ad g) H1 → va_S A H0 H1 locs1 → W p l e R s m args below meth c H1 locs1 cells slots Q (F0 m (pc + 1) ls rest)) : W p l e R s m args below meth c H locs cells slots Q (F0 m pc ls (.int x :: .int i :: .ref (ad q) :: rest)) := by
  subst hk
  have hu : upd a i.toNatClampNeg (vp_nar .int x) = upd a i.toNatClampNeg x := rfl
  refine va_iast hexec hb hK hP (hD.va f) hS q t0 (by rw [xw_at hq, he]) ht hin hdg (fun H1 locs1 hP1 _ hS1 => kk H1 locs1 ?_ hS1)
  first | (rw [xw_set hg] at hP1; exact hP1) | (rw [hu, xw_set hg] at hP1; exact hP1)
theorem xr_zast (hexec : p.tables.exec = Jvm.exec) (hb : c.code = cc) (hK : va_K D vwCl tys s) (hP : va_P D vwCl (xw n ad f) H) (hD : xw_D n ad A) (hS : va_S A H0 H locs) (q t0 : Nat) (hq : q < n) {cA : ClassId} {N : Nat} {a : Nat → Int32} (he : f q = .inl (cA, N, .inl a)) (ht : tys[t0]? = some (cA, .boolean)) {i x : Int32} {k : Nat} (hk : i.toNatClampNeg = k) (hin : vp_in i N) (hdg : decode cc pc = .ok (.bastore, 1)) {g : Nat → va_E} (hg : ∀ j, j < n → g j = va_up f q (.inl (cA, N, .inl (upd a k (vp_nar .boolean x)))) j)
    (kk : ∀ (H1 : Heap) (locs1 : List Loc), va_P D vwCl (xw n ad g) H1 → va_S A H0 H1 locs1 → W p l e R s m args below meth c H1 locs1 cells slots Q (F0 m (pc + 1) ls rest)) : W p l e R s m args below meth c H locs cells slots Q (F0 m pc ls (.int x :: .int i :: .ref (ad q) :: rest)) := by
  subst hk
  exact va_zast hexec hb hK hP (hD.va f) hS q t0 (by rw [xw_at hq, he]) ht hin hdg (fun H1 locs1 hP1 _ hS1 => kk H1 locs1 (by rw [xw_set hg] at hP1; exact hP1) hS1)
theorem xr_last (hexec : p.tables.exec = Jvm.exec) (hb : c.code = cc) (hK : va_K D vwCl tys s) (hP : va_P D vwCl (xw n ad f) H) (hD : xw_D n ad A) (hS : va_S A H0 H locs) (q t0 : Nat) (hq : q < n) {cA : ClassId} {N : Nat} {a : Nat → Int64} (he : f q = .inl (cA, N, .inr (.inl a))) (ht : tys[t0]? = some (cA, .long)) {i : Int32} {x : Int64} {k : Nat} (hk : i.toNatClampNeg = k) (hin : vp_in i N) (hdg : decode cc pc = .ok (.lastore, 1)) {g : Nat → va_E} (hg : ∀ j, j < n → g j = va_up f q (.inl (cA, N, .inr (.inl (vp_updL a k x)))) j)
    (kk : ∀ (H1 : Heap) (locs1 : List Loc), va_P D vwCl (xw n ad g) H1 → va_S A H0 H1 locs1 → W p l e R s m args below meth c H1 locs1 cells slots Q (F0 m (pc + 1) ls rest)) : W p l e R s m args below meth c H locs cells slots Q (F0 m pc ls (.long x :: .int i :: .ref (ad q) :: rest)) := by
  subst hk
  exact va_last hexec hb hK hP (hD.va f) hS q t0 (by rw [xw_at hq, he]) ht hin hdg (fun H1 locs1 hP1 _ hS1 => kk H1 locs1 (by rw [xw_set hg] at hP1; exact hP1) hS1)
theorem xr_aast (hexec : p.tables.exec = Jvm.exec) (hb : c.code = cc) (hK : va_K D vwCl tys s) (hP : va_P D vwCl (xw n ad f) H) (hD : xw_D n ad A) (hS : va_S A H0 H locs) (q t0 qk ci : Nat) (hq : q < n) (hqk : qk < n) {cA : ClassId} {r : vw_C} {N : Nat} {vs : List Value} {a : Nat → Option Nat} (he : f q = .inl (cA, N, x_q a)) (ht : tys[t0]? = some (cA, .object r.1)) (hev : f qk = .inr (ci, vs)) (hc : vwCl[ci]? = some r) {i : Int32} {k : Nat} (hk : i.toNatClampNeg = k) (hin : vp_in i N) (hdg : decode cc pc = .ok (.aastore, 1)) {g : Nat → va_E} (hg : ∀ j, j < n → g j = va_up f q (.inl (cA, N, x_q (va_up a k (some (ad qk))))) j)
    (kk : ∀ (H1 : Heap) (locs1 : List Loc), va_P D vwCl (xw n ad g) H1 → va_S A H0 H1 locs1 → W p l e R s m args below meth c H1 locs1 cells slots Q (F0 m (pc + 1) ls rest)) : W p l e R s m args below meth c H locs cells slots Q (F0 m pc ls (.ref (ad qk) :: .int i :: .ref (ad q) :: rest)) := by
  subst hk
  exact va_astq hexec hb hK hP (hD.va f) hS q t0 qk ci (by rw [xw_at hq, he]) ht (by rw [xw_at hqk, hev]) hc hin hdg (fun H1 locs1 hP1 _ hS1 => kk H1 locs1 (by rw [xw_set hg] at hP1; exact hP1) hS1)
theorem xr_copyl (hexec : p.tables.exec = Jvm.exec) (hb : c.code = cc) (hml : c.maxLocals = ls.size) {own : String} {index : Nat} {Ts : List Cond} (hts : ∀ w ∈ Ts, w.before args s = true) (hown : s.vm.findClass own = some m.cls) (hlink : Cond.methodLink own index arraycopyName ∈ Ts) (hnat : Cond.native arraycopyName ∈ Ts) (hstat : Cond.static arraycopyName ∈ Ts) (hini : Cond.initialized "java/lang/System" ∈ Ts)
    (hK : va_K D vwCl tys s) (hP : va_P D vwCl (xw n ad f) H) (hD : xw_D n ad A) (hS : va_S A H0 H locs) (q0 q t0 : Nat) (hq0 : q0 < n) (hq : q < n) {cA : ClassId} {n0 n1 : Nat} {a0 a : Nat → Int64} (he0 : f q0 = .inl (cA, n0, .inr (.inl a0))) (he : f q = .inl (cA, n1, .inr (.inl a))) (ht : tys[t0]? = some (cA, .long))
    {cnt : Int32} {k : Nat} (hk : cnt.toNatClampNeg = k) (h3 : ¬ cnt < 0) (h4 : k ≤ n0) (h5 : k ≤ n1) (hframes : 1 ≤ R.frames) (hlocals : (rest.map fun v => v.category).sum + (nativeFrameWords "java/lang/System" "arraycopy" 5 + 11) ≤ R.locals) (hdg : decode cc pc = .ok (.invokestatic index, 3)) {g : Nat → va_E} (hg : ∀ j, j < n → g j = va_up f q (.inl (cA, n1, .inr (.inl (va_cpy a0 a 0 0 k)))) j)
    (kk : ∀ (H1 : Heap) (locs1 : List Loc), va_P D vwCl (xw n ad g) H1 → va_S A H0 H1 locs1 → W p l e R s m args below meth c H1 locs1 cells slots Q (F0 m (pc + 3) ls rest)) : W p l e R s m args below meth c H locs cells slots Q (F0 m pc ls (.int cnt :: .int 0 :: .ref (ad q) :: .int 0 :: .ref (ad q0) :: rest)) := by
  subst hk
  exact va_copyl hexec hb hml hown (hts _ hlink) (hts _ hnat) (hts _ hstat) (hts _ hini) hK hP (hD.va f) hS q0 q t0 t0 (by rw [xw_at hq0, he0]) (by rw [xw_at hq, he]) ht ht rfl (by decide) (by decide) h3 (by rw [show (0 : Int32).toNatClampNeg = 0 from rfl]; omega) (by rw [show (0 : Int32).toNatClampNeg = 0 from rfl]; omega) (fun _ _ => rfl) hframes hlocals hdg (fun H1 locs1 hP1 _ hS1 => kk H1 locs1 (by
    rw [show (0 : Int32).toNatClampNeg = 0 from rfl, xw_set hg] at hP1; exact hP1) hS1)
theorem xr_min_long (hexec : p.tables.exec = Jvm.exec) (hb : c.code = cc) (hml : c.maxLocals = ls.size) {own : String} {index : Nat} {Ts : List Cond} (hts : ∀ w ∈ Ts, w.before args s = true) (hown : s.vm.findClass own = some m.cls) (hlink : Cond.methodLink own index Lib.MathLoose.min_long.x ∈ Ts) (hw : (Cond.static Lib.MathLoose.min_long.x ∈ Ts) ∧ (Cond.initialized "java/lang/Math" ∈ Ts) ∧ (Cond.code Lib.MathLoose.min_long.x Lib.MathLoose.min_long.code 4 (some .long) ∈ Ts))
    (hframes : 1 ≤ R.frames) (hlocals : (rest.map fun v => v.category).sum + 15 ≤ R.locals) (hc : cells ≤ R.cells) (hs : slots ≤ R.slots) {x y : Int64} (hdg : decode cc pc = .ok (.invokestatic index, 3))
    (kk : W p l e R s m args below meth c H locs cells slots Q (F0 m (pc + 3) ls (.long (if y < x then y else x) :: rest))) : W p l e R s m args below meth c H locs cells slots Q (F0 m pc ls (.long y :: .long x :: rest)) :=
  va_mmin_long hexec hb hml hown (hts _ hlink) (hts _ hw.1) (hts _ hw.2.1) (hts _ hw.2.2) hframes hlocals hc hs hdg kk
theorem xr_if_lcmp_eq (hexec : p.tables.exec = Jvm.exec) (hb : c.code = cc) {x y : Int64} {off : Int} {tgt : Nat} (hd0 : decode cc pc = .ok (.lcmp, 1)) (hdg : decode cc (pc + 1) = .ok (.ifCond .eq off, 3)) (ht : ((pc + 1 : Nat) : Int) + off = (tgt : Int))
    (kt : x = y → W p l e R s m args below meth c H locs cells slots Q (F0 m tgt ls rest)) (kf : ¬ x = y → W p l e R s m args below meth c H locs cells slots Q (F0 m (pc + 4) ls rest)) : W p l e R s m args below meth c H locs cells slots Q (F0 m pc ls (.long y :: .long x :: rest)) :=
  W.lcmp hexec hb hd0 (lv_if_eq hexec hb hdg ht (fun h => kt ((lg_cmp_eq x y).mp h)) (fun h => kf (fun q => h ((lg_cmp_eq x y).mpr q))))
theorem xr_if_lcmp_ne (hexec : p.tables.exec = Jvm.exec) (hb : c.code = cc) {x y : Int64} {off : Int} {tgt : Nat} (hd0 : decode cc pc = .ok (.lcmp, 1)) (hdg : decode cc (pc + 1) = .ok (.ifCond .ne off, 3)) (ht : ((pc + 1 : Nat) : Int) + off = (tgt : Int))
    (kt : ¬ x = y → W p l e R s m args below meth c H locs cells slots Q (F0 m tgt ls rest)) (kf : x = y → W p l e R s m args below meth c H locs cells slots Q (F0 m (pc + 4) ls rest)) : W p l e R s m args below meth c H locs cells slots Q (F0 m pc ls (.long y :: .long x :: rest)) :=
  W.lcmp hexec hb hd0 (lv_if_ne hexec hb hdg ht (fun h => kt (fun q => h ((lg_cmp_eq x y).mpr q))) (fun h => kf ((lg_cmp_eq x y).mp h)))
theorem xr_if_lcmp_lt (hexec : p.tables.exec = Jvm.exec) (hb : c.code = cc) {x y : Int64} {off : Int} {tgt : Nat} (hd0 : decode cc pc = .ok (.lcmp, 1)) (hdg : decode cc (pc + 1) = .ok (.ifCond .lt off, 3)) (ht : ((pc + 1 : Nat) : Int) + off = (tgt : Int))
    (kt : x < y → W p l e R s m args below meth c H locs cells slots Q (F0 m tgt ls rest)) (kf : ¬ x < y → W p l e R s m args below meth c H locs cells slots Q (F0 m (pc + 4) ls rest)) : W p l e R s m args below meth c H locs cells slots Q (F0 m pc ls (.long y :: .long x :: rest)) :=
  W.lcmp hexec hb hd0 (lv_if_lt hexec hb hdg ht (fun h => kt ((lg_cmp_lt x y).mp h)) (fun h => kf (fun q => h ((lg_cmp_lt x y).mpr q))))
theorem xr_if_lcmp_ge (hexec : p.tables.exec = Jvm.exec) (hb : c.code = cc) {x y : Int64} {off : Int} {tgt : Nat} (hd0 : decode cc pc = .ok (.lcmp, 1)) (hdg : decode cc (pc + 1) = .ok (.ifCond .ge off, 3)) (ht : ((pc + 1 : Nat) : Int) + off = (tgt : Int))
    (kt : y ≤ x → W p l e R s m args below meth c H locs cells slots Q (F0 m tgt ls rest)) (kf : ¬ y ≤ x → W p l e R s m args below meth c H locs cells slots Q (F0 m (pc + 4) ls rest)) : W p l e R s m args below meth c H locs cells slots Q (F0 m pc ls (.long y :: .long x :: rest)) :=
  W.lcmp hexec hb hd0 (lv_if_ge hexec hb hdg ht (fun h => kt ((lg_cmp_ge x y).mp h)) (fun h => kf (fun q => h ((lg_cmp_ge x y).mpr q))))
theorem xr_if_lcmp_gt (hexec : p.tables.exec = Jvm.exec) (hb : c.code = cc) {x y : Int64} {off : Int} {tgt : Nat} (hd0 : decode cc pc = .ok (.lcmp, 1)) (hdg : decode cc (pc + 1) = .ok (.ifCond .gt off, 3)) (ht : ((pc + 1 : Nat) : Int) + off = (tgt : Int))
    (kt : y < x → W p l e R s m args below meth c H locs cells slots Q (F0 m tgt ls rest)) (kf : ¬ y < x → W p l e R s m args below meth c H locs cells slots Q (F0 m (pc + 4) ls rest)) : W p l e R s m args below meth c H locs cells slots Q (F0 m pc ls (.long y :: .long x :: rest)) :=
  W.lcmp hexec hb hd0 (lv_if_gt hexec hb hdg ht (fun h => kt ((lg_cmp_gt x y).mp h)) (fun h => kf (fun q => h ((lg_cmp_gt x y).mpr q))))
theorem xr_if_lcmp_le (hexec : p.tables.exec = Jvm.exec) (hb : c.code = cc) {x y : Int64} {off : Int} {tgt : Nat} (hd0 : decode cc pc = .ok (.lcmp, 1)) (hdg : decode cc (pc + 1) = .ok (.ifCond .le off, 3)) (ht : ((pc + 1 : Nat) : Int) + off = (tgt : Int))
    (kt : x ≤ y → W p l e R s m args below meth c H locs cells slots Q (F0 m tgt ls rest)) (kf : ¬ x ≤ y → W p l e R s m args below meth c H locs cells slots Q (F0 m (pc + 4) ls rest)) : W p l e R s m args below meth c H locs cells slots Q (F0 m pc ls (.long y :: .long x :: rest)) :=
  W.lcmp hexec hb hd0 (lv_if_le hexec hb hdg ht (fun h => kt ((lg_cmp_le x y).mp h)) (fun h => kf (fun q => h ((lg_cmp_le x y).mpr q))))
/-- a call's start, any world -/
theorem xr_blind {av : List Value} {W0 : va_W} {cl : List vw_C} : FrameBlind (va_Pc av (fun U => va_P D cl W0 U.heap ∧ va_K D cl tys U)) := fun a U g mk q => by
  obtain ⟨q0, qP, qK⟩ := q
  exact ⟨q0, qP, va_K.moved (u := U) (U := U.calling g mk a) (Vm.Alike.refl U.vm) qK⟩
theorem xr_pre {av : List Value} {W0 : va_W} {cl : List vw_C} (hP : va_P D cl W0 H) (hK : va_K D cl tys s) : ∀ U : State, U.heap = H → s.WarmedH U.vm → va_Pc av (fun U => va_P D cl W0 U.heap ∧ va_K D cl tys U) av.toArray U := fun U hU hW => ⟨rfl, by rw [hU]; exact hP, va_K.moved hW.alike hK⟩
theorem xr_recv (hK : va_K D vwCl tys s) (hP : va_P D vwCl (xw n ad f) H) (q : Nat) (hq : q < n) {ci : Nat} {fs : List Value} {r : vw_C} (he : f q = .inr (ci, fs)) (hc : vwCl[ci]? = some r) : ∃ cell : Cell, H[ad q]? = some cell ∧ cell.vm.isStatics = false ∧ s.vm.findClass r.1 = some cell.cls := va_recv hK hP hc (by rw [xw_at hq, he])
end XR
theorem x_ht {D : va_G} {cl : List vw_C} {w : va_W} {H : Heap} {t : State} (ht : t.heap = H) (hP : va_P D cl w H) : va_P D cl w t.heap := by rw [ht]; exact hP
theorem x_th {D : va_G} {cl : List vw_C} {w : va_W} {H : Heap} {t : State} (ht : t.heap = H) (hP : va_P D cl w t.heap) : va_P D cl w H := by rw [← ht]; exact hP
theorem x_lt {i : Int32} {n : Nat} (h : vp_in i n) : i.toNatClampNeg < n := Nat.not_le.mp fun q => h (Or.inr q)
theorem x_oth {α : Type} {f : Nat → α} {j k : Nat} {v o : α} (h : k ≠ j) (ho : f k = o) : va_up f j v k = o := by rw [va_up_ne _ _ h]; exact ho
theorem x_sw8 {x : Int32} (h0 : ¬ x = 0) (h1 : ¬ x = 1) (h2 : ¬ x = 2) (h3 : ¬ x = 3) (h4 : ¬ x = 4) (h5 : ¬ x = 5) (h6 : ¬ x = 6) (h7 : ¬ x = 7) : x.toInt < 0 ∨ 7 < x.toInt := by
  have a0 := lv_neT (a := 0) h0 (by decide)
  have a1 := lv_neT (a := 1) h1 (by decide)
  have a2 := lv_neT (a := 2) h2 (by decide)
  have a3 := lv_neT (a := 3) h3 (by decide)
  have a4 := lv_neT (a := 4) h4 (by decide)
  have a5 := lv_neT (a := 5) h5 (by decide)
  have a6 := lv_neT (a := 6) h6 (by decide)
  have a7 := lv_neT (a := 7) h7 (by decide)
  omega
end
section
abbrev StV : Type := Int64 × Int64 × Int64 × Int64 × Int32 × Int32 × (Nat → Nat → Int64) × (Nat → Nat → Int64)
def s_tm (v : StV) : Int64 := v.1
def s_pl (v : StV) : Int64 := v.2.1
def s_go (v : StV) : Int64 := v.2.2.1
def s_mv (v : StV) : Int64 := v.2.2.2.1
def s_en (v : StV) : Int32 := v.2.2.2.2.1
def s_rs (v : StV) : Int32 := v.2.2.2.2.2.1
def s_du (v : StV) : Nat → Nat → Int64 := v.2.2.2.2.2.2.1
def s_ro (v : StV) : Nat → Nat → Int64 := v.2.2.2.2.2.2.2
def s_wtm (v : StV) (x : Int64) : StV := (x, v.2.1, v.2.2.1, v.2.2.2.1, v.2.2.2.2.1, v.2.2.2.2.2.1, v.2.2.2.2.2.2.1, v.2.2.2.2.2.2.2)
def s_wpl (v : StV) (x : Int64) : StV := (v.1, x, v.2.2.1, v.2.2.2.1, v.2.2.2.2.1, v.2.2.2.2.2.1, v.2.2.2.2.2.2.1, v.2.2.2.2.2.2.2)
def s_wgo (v : StV) (x : Int64) : StV := (v.1, v.2.1, x, v.2.2.2.1, v.2.2.2.2.1, v.2.2.2.2.2.1, v.2.2.2.2.2.2.1, v.2.2.2.2.2.2.2)
def s_wmv (v : StV) (x : Int64) : StV := (v.1, v.2.1, v.2.2.1, x, v.2.2.2.2.1, v.2.2.2.2.2.1, v.2.2.2.2.2.2.1, v.2.2.2.2.2.2.2)
def s_wen (v : StV) (x : Int32) : StV := (v.1, v.2.1, v.2.2.1, v.2.2.2.1, x, v.2.2.2.2.2.1, v.2.2.2.2.2.2.1, v.2.2.2.2.2.2.2)
def s_wrs (v : StV) (x : Int32) : StV := (v.1, v.2.1, v.2.2.1, v.2.2.2.1, v.2.2.2.2.1, x, v.2.2.2.2.2.2.1, v.2.2.2.2.2.2.2)
def s_wDU (v : StV) (x : Nat → Nat → Int64) : StV := (v.1, v.2.1, v.2.2.1, v.2.2.2.1, v.2.2.2.2.1, v.2.2.2.2.2.1, x, v.2.2.2.2.2.2.2)
def s_wRO (v : StV) (x : Nat → Nat → Int64) : StV := (v.1, v.2.1, v.2.2.1, v.2.2.2.1, v.2.2.2.2.1, v.2.2.2.2.2.1, v.2.2.2.2.2.2.1, x)
theorem s_wtm_s_tm (v : StV) (x : Int64) : s_tm (s_wtm v x) = x := rfl
theorem s_wtm_s_pl (v : StV) (x : Int64) : s_pl (s_wtm v x) = s_pl v := rfl
theorem s_wtm_s_go (v : StV) (x : Int64) : s_go (s_wtm v x) = s_go v := rfl
theorem s_wtm_s_mv (v : StV) (x : Int64) : s_mv (s_wtm v x) = s_mv v := rfl
theorem s_wtm_s_en (v : StV) (x : Int64) : s_en (s_wtm v x) = s_en v := rfl
theorem s_wtm_s_rs (v : StV) (x : Int64) : s_rs (s_wtm v x) = s_rs v := rfl
theorem s_wtm_s_du (v : StV) (x : Int64) : s_du (s_wtm v x) = s_du v := rfl
theorem s_wtm_s_ro (v : StV) (x : Int64) : s_ro (s_wtm v x) = s_ro v := rfl
theorem s_wpl_s_tm (v : StV) (x : Int64) : s_tm (s_wpl v x) = s_tm v := rfl
theorem s_wpl_s_pl (v : StV) (x : Int64) : s_pl (s_wpl v x) = x := rfl
theorem s_wpl_s_go (v : StV) (x : Int64) : s_go (s_wpl v x) = s_go v := rfl
theorem s_wpl_s_mv (v : StV) (x : Int64) : s_mv (s_wpl v x) = s_mv v := rfl
theorem s_wpl_s_en (v : StV) (x : Int64) : s_en (s_wpl v x) = s_en v := rfl
theorem s_wpl_s_rs (v : StV) (x : Int64) : s_rs (s_wpl v x) = s_rs v := rfl
theorem s_wpl_s_du (v : StV) (x : Int64) : s_du (s_wpl v x) = s_du v := rfl
theorem s_wpl_s_ro (v : StV) (x : Int64) : s_ro (s_wpl v x) = s_ro v := rfl
theorem s_wgo_s_tm (v : StV) (x : Int64) : s_tm (s_wgo v x) = s_tm v := rfl
theorem s_wgo_s_pl (v : StV) (x : Int64) : s_pl (s_wgo v x) = s_pl v := rfl
theorem s_wgo_s_go (v : StV) (x : Int64) : s_go (s_wgo v x) = x := rfl
theorem s_wgo_s_mv (v : StV) (x : Int64) : s_mv (s_wgo v x) = s_mv v := rfl
theorem s_wgo_s_en (v : StV) (x : Int64) : s_en (s_wgo v x) = s_en v := rfl
theorem s_wgo_s_rs (v : StV) (x : Int64) : s_rs (s_wgo v x) = s_rs v := rfl
theorem s_wgo_s_du (v : StV) (x : Int64) : s_du (s_wgo v x) = s_du v := rfl
theorem s_wgo_s_ro (v : StV) (x : Int64) : s_ro (s_wgo v x) = s_ro v := rfl
theorem s_wmv_s_tm (v : StV) (x : Int64) : s_tm (s_wmv v x) = s_tm v := rfl
theorem s_wmv_s_pl (v : StV) (x : Int64) : s_pl (s_wmv v x) = s_pl v := rfl
theorem s_wmv_s_go (v : StV) (x : Int64) : s_go (s_wmv v x) = s_go v := rfl
theorem s_wmv_s_mv (v : StV) (x : Int64) : s_mv (s_wmv v x) = x := rfl
theorem s_wmv_s_en (v : StV) (x : Int64) : s_en (s_wmv v x) = s_en v := rfl
theorem s_wmv_s_rs (v : StV) (x : Int64) : s_rs (s_wmv v x) = s_rs v := rfl
theorem s_wmv_s_du (v : StV) (x : Int64) : s_du (s_wmv v x) = s_du v := rfl
theorem s_wmv_s_ro (v : StV) (x : Int64) : s_ro (s_wmv v x) = s_ro v := rfl
theorem s_wen_s_tm (v : StV) (x : Int32) : s_tm (s_wen v x) = s_tm v := rfl
theorem s_wen_s_pl (v : StV) (x : Int32) : s_pl (s_wen v x) = s_pl v := rfl
theorem s_wen_s_go (v : StV) (x : Int32) : s_go (s_wen v x) = s_go v := rfl
theorem s_wen_s_mv (v : StV) (x : Int32) : s_mv (s_wen v x) = s_mv v := rfl
theorem s_wen_s_en (v : StV) (x : Int32) : s_en (s_wen v x) = x := rfl
theorem s_wen_s_rs (v : StV) (x : Int32) : s_rs (s_wen v x) = s_rs v := rfl
theorem s_wen_s_du (v : StV) (x : Int32) : s_du (s_wen v x) = s_du v := rfl
theorem s_wen_s_ro (v : StV) (x : Int32) : s_ro (s_wen v x) = s_ro v := rfl
theorem s_wrs_s_tm (v : StV) (x : Int32) : s_tm (s_wrs v x) = s_tm v := rfl
theorem s_wrs_s_pl (v : StV) (x : Int32) : s_pl (s_wrs v x) = s_pl v := rfl
theorem s_wrs_s_go (v : StV) (x : Int32) : s_go (s_wrs v x) = s_go v := rfl
theorem s_wrs_s_mv (v : StV) (x : Int32) : s_mv (s_wrs v x) = s_mv v := rfl
theorem s_wrs_s_en (v : StV) (x : Int32) : s_en (s_wrs v x) = s_en v := rfl
theorem s_wrs_s_rs (v : StV) (x : Int32) : s_rs (s_wrs v x) = x := rfl
theorem s_wrs_s_du (v : StV) (x : Int32) : s_du (s_wrs v x) = s_du v := rfl
theorem s_wrs_s_ro (v : StV) (x : Int32) : s_ro (s_wrs v x) = s_ro v := rfl
theorem s_wDU_s_tm (v : StV) (x : Nat → Nat → Int64) : s_tm (s_wDU v x) = s_tm v := rfl
theorem s_wDU_s_pl (v : StV) (x : Nat → Nat → Int64) : s_pl (s_wDU v x) = s_pl v := rfl
theorem s_wDU_s_go (v : StV) (x : Nat → Nat → Int64) : s_go (s_wDU v x) = s_go v := rfl
theorem s_wDU_s_mv (v : StV) (x : Nat → Nat → Int64) : s_mv (s_wDU v x) = s_mv v := rfl
theorem s_wDU_s_en (v : StV) (x : Nat → Nat → Int64) : s_en (s_wDU v x) = s_en v := rfl
theorem s_wDU_s_rs (v : StV) (x : Nat → Nat → Int64) : s_rs (s_wDU v x) = s_rs v := rfl
theorem s_wDU_s_du (v : StV) (x : Nat → Nat → Int64) : s_du (s_wDU v x) = x := rfl
theorem s_wDU_s_ro (v : StV) (x : Nat → Nat → Int64) : s_ro (s_wDU v x) = s_ro v := rfl
theorem s_wRO_s_tm (v : StV) (x : Nat → Nat → Int64) : s_tm (s_wRO v x) = s_tm v := rfl
theorem s_wRO_s_pl (v : StV) (x : Nat → Nat → Int64) : s_pl (s_wRO v x) = s_pl v := rfl
theorem s_wRO_s_go (v : StV) (x : Nat → Nat → Int64) : s_go (s_wRO v x) = s_go v := rfl
theorem s_wRO_s_mv (v : StV) (x : Nat → Nat → Int64) : s_mv (s_wRO v x) = s_mv v := rfl
theorem s_wRO_s_en (v : StV) (x : Nat → Nat → Int64) : s_en (s_wRO v x) = s_en v := rfl
theorem s_wRO_s_rs (v : StV) (x : Nat → Nat → Int64) : s_rs (s_wRO v x) = s_rs v := rfl
theorem s_wRO_s_du (v : StV) (x : Nat → Nat → Int64) : s_du (s_wRO v x) = s_du v := rfl
theorem s_wRO_s_ro (v : StV) (x : Nat → Nat → Int64) : s_ro (s_wRO v x) = x := rfl
abbrev LnV : Type := Int32 × (Nat → Int32) × (Nat → Int64) × (Nat → Int64)
def l_sz (v : LnV) : Int32 := v.1
def l_du (v : LnV) : Nat → Int32 := v.2.1
def l_f1 (v : LnV) : Nat → Int64 := v.2.2.1
def l_f2 (v : LnV) : Nat → Int64 := v.2.2.2
def l_wsz (v : LnV) (x : Int32) : LnV := (x, v.2.1, v.2.2.1, v.2.2.2)
def l_wdu (v : LnV) (x : Nat → Int32) : LnV := (v.1, x, v.2.2.1, v.2.2.2)
def l_wf1 (v : LnV) (x : Nat → Int64) : LnV := (v.1, v.2.1, x, v.2.2.2)
def l_wf2 (v : LnV) (x : Nat → Int64) : LnV := (v.1, v.2.1, v.2.2.1, x)
theorem l_wsz_l_sz (v : LnV) (x : Int32) : l_sz (l_wsz v x) = x := rfl
theorem l_wsz_l_du (v : LnV) (x : Int32) : l_du (l_wsz v x) = l_du v := rfl
theorem l_wsz_l_f1 (v : LnV) (x : Int32) : l_f1 (l_wsz v x) = l_f1 v := rfl
theorem l_wsz_l_f2 (v : LnV) (x : Int32) : l_f2 (l_wsz v x) = l_f2 v := rfl
theorem l_wdu_l_sz (v : LnV) (x : Nat → Int32) : l_sz (l_wdu v x) = l_sz v := rfl
theorem l_wdu_l_du (v : LnV) (x : Nat → Int32) : l_du (l_wdu v x) = x := rfl
theorem l_wdu_l_f1 (v : LnV) (x : Nat → Int32) : l_f1 (l_wdu v x) = l_f1 v := rfl
theorem l_wdu_l_f2 (v : LnV) (x : Nat → Int32) : l_f2 (l_wdu v x) = l_f2 v := rfl
theorem l_wf1_l_sz (v : LnV) (x : Nat → Int64) : l_sz (l_wf1 v x) = l_sz v := rfl
theorem l_wf1_l_du (v : LnV) (x : Nat → Int64) : l_du (l_wf1 v x) = l_du v := rfl
theorem l_wf1_l_f1 (v : LnV) (x : Nat → Int64) : l_f1 (l_wf1 v x) = x := rfl
theorem l_wf1_l_f2 (v : LnV) (x : Nat → Int64) : l_f2 (l_wf1 v x) = l_f2 v := rfl
theorem l_wf2_l_sz (v : LnV) (x : Nat → Int64) : l_sz (l_wf2 v x) = l_sz v := rfl
theorem l_wf2_l_du (v : LnV) (x : Nat → Int64) : l_du (l_wf2 v x) = l_du v := rfl
theorem l_wf2_l_f1 (v : LnV) (x : Nat → Int64) : l_f1 (l_wf2 v x) = l_f1 v := rfl
theorem l_wf2_l_f2 (v : LnV) (x : Nat → Int64) : l_f2 (l_wf2 v x) = x := rfl
abbrev SvV : Type := (Nat → Int64) × (Nat → Int64) × Int32
def t_sd (v : SvV) : Nat → Int64 := v.1
def t_fa (v : SvV) : Nat → Int64 := v.2.1
def t_fz (v : SvV) : Int32 := v.2.2
def t_wsd (v : SvV) (x : Nat → Int64) : SvV := (x, v.2.1, v.2.2)
def t_wfa (v : SvV) (x : Nat → Int64) : SvV := (v.1, x, v.2.2)
def t_wfz (v : SvV) (x : Int32) : SvV := (v.1, v.2.1, x)
theorem t_wsd_t_sd (v : SvV) (x : Nat → Int64) : t_sd (t_wsd v x) = x := rfl
theorem t_wsd_t_fa (v : SvV) (x : Nat → Int64) : t_fa (t_wsd v x) = t_fa v := rfl
theorem t_wsd_t_fz (v : SvV) (x : Nat → Int64) : t_fz (t_wsd v x) = t_fz v := rfl
theorem t_wfa_t_sd (v : SvV) (x : Nat → Int64) : t_sd (t_wfa v x) = t_sd v := rfl
theorem t_wfa_t_fa (v : SvV) (x : Nat → Int64) : t_fa (t_wfa v x) = x := rfl
theorem t_wfa_t_fz (v : SvV) (x : Nat → Int64) : t_fz (t_wfa v x) = t_fz v := rfl
theorem t_wfz_t_sd (v : SvV) (x : Int32) : t_sd (t_wfz v x) = t_sd v := rfl
theorem t_wfz_t_fa (v : SvV) (x : Int32) : t_fa (t_wfz v x) = t_fa v := rfl
theorem t_wfz_t_fz (v : SvV) (x : Int32) : t_fz (t_wfz v x) = x := rfl
abbrev KvV : Type := (Nat → Nat) × Int32 × Int32
def k_rg (v : KvV) : Nat → Nat := v.1
def k_la (v : KvV) : Int32 := v.2.1
def k_sz (v : KvV) : Int32 := v.2.2
def k_wrg (v : KvV) (x : Nat → Nat) : KvV := (x, v.2.1, v.2.2)
def k_wla (v : KvV) (x : Int32) : KvV := (v.1, x, v.2.2)
def k_wsz (v : KvV) (x : Int32) : KvV := (v.1, v.2.1, x)
theorem k_wrg_k_rg (v : KvV) (x : Nat → Nat) : k_rg (k_wrg v x) = x := rfl
theorem k_wrg_k_la (v : KvV) (x : Nat → Nat) : k_la (k_wrg v x) = k_la v := rfl
theorem k_wrg_k_sz (v : KvV) (x : Nat → Nat) : k_sz (k_wrg v x) = k_sz v := rfl
theorem k_wla_k_rg (v : KvV) (x : Int32) : k_rg (k_wla v x) = k_rg v := rfl
theorem k_wla_k_la (v : KvV) (x : Int32) : k_la (k_wla v x) = x := rfl
theorem k_wla_k_sz (v : KvV) (x : Int32) : k_sz (k_wla v x) = k_sz v := rfl
theorem k_wsz_k_rg (v : KvV) (x : Int32) : k_rg (k_wsz v x) = k_rg v := rfl
theorem k_wsz_k_la (v : KvV) (x : Int32) : k_la (k_wsz v x) = k_la v := rfl
theorem k_wsz_k_sz (v : KvV) (x : Int32) : k_sz (k_wsz v x) = x := rfl
abbrev MmV : Type := (Nat → Int64) × (Nat → Int64) × Int32 × (Nat → Int32) × Int32 × (Nat → Int32) × (Nat → Int64) × Int32 × (Nat → Int32)
def m_s (v : MmV) : Nat → Int64 := v.1
def m_bf (v : MmV) : Nat → Int64 := v.2.1
def m_kp (v : MmV) : Int32 := v.2.2.1
def m_gs (v : MmV) : Nat → Int32 := v.2.2.2.1
def m_gc (v : MmV) : Int32 := v.2.2.2.2.1
def m_lo (v : MmV) : Nat → Int32 := v.2.2.2.2.2.1
def m_tk (v : MmV) : Nat → Int64 := v.2.2.2.2.2.2.1
def m_lc (v : MmV) : Int32 := v.2.2.2.2.2.2.2.1
def m_fs (v : MmV) : Nat → Int32 := v.2.2.2.2.2.2.2.2
def m_ws (v : MmV) (x : Nat → Int64) : MmV := (x, v.2.1, v.2.2.1, v.2.2.2.1, v.2.2.2.2.1, v.2.2.2.2.2.1, v.2.2.2.2.2.2.1, v.2.2.2.2.2.2.2.1, v.2.2.2.2.2.2.2.2)
def m_wbf (v : MmV) (x : Nat → Int64) : MmV := (v.1, x, v.2.2.1, v.2.2.2.1, v.2.2.2.2.1, v.2.2.2.2.2.1, v.2.2.2.2.2.2.1, v.2.2.2.2.2.2.2.1, v.2.2.2.2.2.2.2.2)
def m_wkp (v : MmV) (x : Int32) : MmV := (v.1, v.2.1, x, v.2.2.2.1, v.2.2.2.2.1, v.2.2.2.2.2.1, v.2.2.2.2.2.2.1, v.2.2.2.2.2.2.2.1, v.2.2.2.2.2.2.2.2)
def m_wgs (v : MmV) (x : Nat → Int32) : MmV := (v.1, v.2.1, v.2.2.1, x, v.2.2.2.2.1, v.2.2.2.2.2.1, v.2.2.2.2.2.2.1, v.2.2.2.2.2.2.2.1, v.2.2.2.2.2.2.2.2)
def m_wgc (v : MmV) (x : Int32) : MmV := (v.1, v.2.1, v.2.2.1, v.2.2.2.1, x, v.2.2.2.2.2.1, v.2.2.2.2.2.2.1, v.2.2.2.2.2.2.2.1, v.2.2.2.2.2.2.2.2)
def m_wlo (v : MmV) (x : Nat → Int32) : MmV := (v.1, v.2.1, v.2.2.1, v.2.2.2.1, v.2.2.2.2.1, x, v.2.2.2.2.2.2.1, v.2.2.2.2.2.2.2.1, v.2.2.2.2.2.2.2.2)
def m_wtk (v : MmV) (x : Nat → Int64) : MmV := (v.1, v.2.1, v.2.2.1, v.2.2.2.1, v.2.2.2.2.1, v.2.2.2.2.2.1, x, v.2.2.2.2.2.2.2.1, v.2.2.2.2.2.2.2.2)
def m_wlc (v : MmV) (x : Int32) : MmV := (v.1, v.2.1, v.2.2.1, v.2.2.2.1, v.2.2.2.2.1, v.2.2.2.2.2.1, v.2.2.2.2.2.2.1, x, v.2.2.2.2.2.2.2.2)
def m_wfs (v : MmV) (x : Nat → Int32) : MmV := (v.1, v.2.1, v.2.2.1, v.2.2.2.1, v.2.2.2.2.1, v.2.2.2.2.2.1, v.2.2.2.2.2.2.1, v.2.2.2.2.2.2.2.1, x)
theorem m_ws_m_s (v : MmV) (x : Nat → Int64) : m_s (m_ws v x) = x := rfl
theorem m_ws_m_bf (v : MmV) (x : Nat → Int64) : m_bf (m_ws v x) = m_bf v := rfl
theorem m_ws_m_kp (v : MmV) (x : Nat → Int64) : m_kp (m_ws v x) = m_kp v := rfl
theorem m_ws_m_gs (v : MmV) (x : Nat → Int64) : m_gs (m_ws v x) = m_gs v := rfl
theorem m_ws_m_gc (v : MmV) (x : Nat → Int64) : m_gc (m_ws v x) = m_gc v := rfl
theorem m_ws_m_lo (v : MmV) (x : Nat → Int64) : m_lo (m_ws v x) = m_lo v := rfl
theorem m_ws_m_tk (v : MmV) (x : Nat → Int64) : m_tk (m_ws v x) = m_tk v := rfl
theorem m_ws_m_lc (v : MmV) (x : Nat → Int64) : m_lc (m_ws v x) = m_lc v := rfl
theorem m_ws_m_fs (v : MmV) (x : Nat → Int64) : m_fs (m_ws v x) = m_fs v := rfl
theorem m_wbf_m_s (v : MmV) (x : Nat → Int64) : m_s (m_wbf v x) = m_s v := rfl
theorem m_wbf_m_bf (v : MmV) (x : Nat → Int64) : m_bf (m_wbf v x) = x := rfl
theorem m_wbf_m_kp (v : MmV) (x : Nat → Int64) : m_kp (m_wbf v x) = m_kp v := rfl
theorem m_wbf_m_gs (v : MmV) (x : Nat → Int64) : m_gs (m_wbf v x) = m_gs v := rfl
theorem m_wbf_m_gc (v : MmV) (x : Nat → Int64) : m_gc (m_wbf v x) = m_gc v := rfl
theorem m_wbf_m_lo (v : MmV) (x : Nat → Int64) : m_lo (m_wbf v x) = m_lo v := rfl
theorem m_wbf_m_tk (v : MmV) (x : Nat → Int64) : m_tk (m_wbf v x) = m_tk v := rfl
theorem m_wbf_m_lc (v : MmV) (x : Nat → Int64) : m_lc (m_wbf v x) = m_lc v := rfl
theorem m_wbf_m_fs (v : MmV) (x : Nat → Int64) : m_fs (m_wbf v x) = m_fs v := rfl
theorem m_wkp_m_s (v : MmV) (x : Int32) : m_s (m_wkp v x) = m_s v := rfl
theorem m_wkp_m_bf (v : MmV) (x : Int32) : m_bf (m_wkp v x) = m_bf v := rfl
theorem m_wkp_m_kp (v : MmV) (x : Int32) : m_kp (m_wkp v x) = x := rfl
theorem m_wkp_m_gs (v : MmV) (x : Int32) : m_gs (m_wkp v x) = m_gs v := rfl
theorem m_wkp_m_gc (v : MmV) (x : Int32) : m_gc (m_wkp v x) = m_gc v := rfl
theorem m_wkp_m_lo (v : MmV) (x : Int32) : m_lo (m_wkp v x) = m_lo v := rfl
theorem m_wkp_m_tk (v : MmV) (x : Int32) : m_tk (m_wkp v x) = m_tk v := rfl
theorem m_wkp_m_lc (v : MmV) (x : Int32) : m_lc (m_wkp v x) = m_lc v := rfl
theorem m_wkp_m_fs (v : MmV) (x : Int32) : m_fs (m_wkp v x) = m_fs v := rfl
theorem m_wgs_m_s (v : MmV) (x : Nat → Int32) : m_s (m_wgs v x) = m_s v := rfl
theorem m_wgs_m_bf (v : MmV) (x : Nat → Int32) : m_bf (m_wgs v x) = m_bf v := rfl
theorem m_wgs_m_kp (v : MmV) (x : Nat → Int32) : m_kp (m_wgs v x) = m_kp v := rfl
theorem m_wgs_m_gs (v : MmV) (x : Nat → Int32) : m_gs (m_wgs v x) = x := rfl
theorem m_wgs_m_gc (v : MmV) (x : Nat → Int32) : m_gc (m_wgs v x) = m_gc v := rfl
theorem m_wgs_m_lo (v : MmV) (x : Nat → Int32) : m_lo (m_wgs v x) = m_lo v := rfl
theorem m_wgs_m_tk (v : MmV) (x : Nat → Int32) : m_tk (m_wgs v x) = m_tk v := rfl
theorem m_wgs_m_lc (v : MmV) (x : Nat → Int32) : m_lc (m_wgs v x) = m_lc v := rfl
theorem m_wgs_m_fs (v : MmV) (x : Nat → Int32) : m_fs (m_wgs v x) = m_fs v := rfl
theorem m_wgc_m_s (v : MmV) (x : Int32) : m_s (m_wgc v x) = m_s v := rfl
theorem m_wgc_m_bf (v : MmV) (x : Int32) : m_bf (m_wgc v x) = m_bf v := rfl
theorem m_wgc_m_kp (v : MmV) (x : Int32) : m_kp (m_wgc v x) = m_kp v := rfl
theorem m_wgc_m_gs (v : MmV) (x : Int32) : m_gs (m_wgc v x) = m_gs v := rfl
theorem m_wgc_m_gc (v : MmV) (x : Int32) : m_gc (m_wgc v x) = x := rfl
theorem m_wgc_m_lo (v : MmV) (x : Int32) : m_lo (m_wgc v x) = m_lo v := rfl
theorem m_wgc_m_tk (v : MmV) (x : Int32) : m_tk (m_wgc v x) = m_tk v := rfl
theorem m_wgc_m_lc (v : MmV) (x : Int32) : m_lc (m_wgc v x) = m_lc v := rfl
theorem m_wgc_m_fs (v : MmV) (x : Int32) : m_fs (m_wgc v x) = m_fs v := rfl
theorem m_wlo_m_s (v : MmV) (x : Nat → Int32) : m_s (m_wlo v x) = m_s v := rfl
theorem m_wlo_m_bf (v : MmV) (x : Nat → Int32) : m_bf (m_wlo v x) = m_bf v := rfl
theorem m_wlo_m_kp (v : MmV) (x : Nat → Int32) : m_kp (m_wlo v x) = m_kp v := rfl
theorem m_wlo_m_gs (v : MmV) (x : Nat → Int32) : m_gs (m_wlo v x) = m_gs v := rfl
theorem m_wlo_m_gc (v : MmV) (x : Nat → Int32) : m_gc (m_wlo v x) = m_gc v := rfl
theorem m_wlo_m_lo (v : MmV) (x : Nat → Int32) : m_lo (m_wlo v x) = x := rfl
theorem m_wlo_m_tk (v : MmV) (x : Nat → Int32) : m_tk (m_wlo v x) = m_tk v := rfl
theorem m_wlo_m_lc (v : MmV) (x : Nat → Int32) : m_lc (m_wlo v x) = m_lc v := rfl
theorem m_wlo_m_fs (v : MmV) (x : Nat → Int32) : m_fs (m_wlo v x) = m_fs v := rfl
theorem m_wtk_m_s (v : MmV) (x : Nat → Int64) : m_s (m_wtk v x) = m_s v := rfl
theorem m_wtk_m_bf (v : MmV) (x : Nat → Int64) : m_bf (m_wtk v x) = m_bf v := rfl
theorem m_wtk_m_kp (v : MmV) (x : Nat → Int64) : m_kp (m_wtk v x) = m_kp v := rfl
theorem m_wtk_m_gs (v : MmV) (x : Nat → Int64) : m_gs (m_wtk v x) = m_gs v := rfl
theorem m_wtk_m_gc (v : MmV) (x : Nat → Int64) : m_gc (m_wtk v x) = m_gc v := rfl
theorem m_wtk_m_lo (v : MmV) (x : Nat → Int64) : m_lo (m_wtk v x) = m_lo v := rfl
theorem m_wtk_m_tk (v : MmV) (x : Nat → Int64) : m_tk (m_wtk v x) = x := rfl
theorem m_wtk_m_lc (v : MmV) (x : Nat → Int64) : m_lc (m_wtk v x) = m_lc v := rfl
theorem m_wtk_m_fs (v : MmV) (x : Nat → Int64) : m_fs (m_wtk v x) = m_fs v := rfl
theorem m_wlc_m_s (v : MmV) (x : Int32) : m_s (m_wlc v x) = m_s v := rfl
theorem m_wlc_m_bf (v : MmV) (x : Int32) : m_bf (m_wlc v x) = m_bf v := rfl
theorem m_wlc_m_kp (v : MmV) (x : Int32) : m_kp (m_wlc v x) = m_kp v := rfl
theorem m_wlc_m_gs (v : MmV) (x : Int32) : m_gs (m_wlc v x) = m_gs v := rfl
theorem m_wlc_m_gc (v : MmV) (x : Int32) : m_gc (m_wlc v x) = m_gc v := rfl
theorem m_wlc_m_lo (v : MmV) (x : Int32) : m_lo (m_wlc v x) = m_lo v := rfl
theorem m_wlc_m_tk (v : MmV) (x : Int32) : m_tk (m_wlc v x) = m_tk v := rfl
theorem m_wlc_m_lc (v : MmV) (x : Int32) : m_lc (m_wlc v x) = x := rfl
theorem m_wlc_m_fs (v : MmV) (x : Int32) : m_fs (m_wlc v x) = m_fs v := rfl
theorem m_wfs_m_s (v : MmV) (x : Nat → Int32) : m_s (m_wfs v x) = m_s v := rfl
theorem m_wfs_m_bf (v : MmV) (x : Nat → Int32) : m_bf (m_wfs v x) = m_bf v := rfl
theorem m_wfs_m_kp (v : MmV) (x : Nat → Int32) : m_kp (m_wfs v x) = m_kp v := rfl
theorem m_wfs_m_gs (v : MmV) (x : Nat → Int32) : m_gs (m_wfs v x) = m_gs v := rfl
theorem m_wfs_m_gc (v : MmV) (x : Nat → Int32) : m_gc (m_wfs v x) = m_gc v := rfl
theorem m_wfs_m_lo (v : MmV) (x : Nat → Int32) : m_lo (m_wfs v x) = m_lo v := rfl
theorem m_wfs_m_tk (v : MmV) (x : Nat → Int32) : m_tk (m_wfs v x) = m_tk v := rfl
theorem m_wfs_m_lc (v : MmV) (x : Nat → Int32) : m_lc (m_wfs v x) = m_lc v := rfl
theorem m_wfs_m_fs (v : MmV) (x : Nat → Int32) : m_fs (m_wfs v x) = x := rfl
/-- one row of a state's table put anew; one place of it -/
def s_rdu (v : StV) (f : Nat) (r : Nat → Int64) : StV := s_wDU v (va_up (s_du v) f r)
def s_rro (v : StV) (f : Nat) (r : Nat → Int64) : StV := s_wRO v (va_up (s_ro v) f r)
def s_wdu (v : StV) (f i : Nat) (x : Int64) : StV := s_rdu v f (vp_updL (s_du v f) i x)
def s_wro (v : StV) (f i : Nat) (x : Int64) : StV := s_rro v f (vp_updL (s_ro v f) i x)
def xaS (j : Nat) : Nat := 15 + 18 * j
def xaD0 (j : Nat) : Nat := 15 + 18 * j + 1
def xaD (j f : Nat) : Nat := 15 + 18 * j + (2 + f)
def xaR0 (j : Nat) : Nat := 15 + 18 * j + 14
def xaR (j f : Nat) : Nat := 15 + 18 * j + (15 + f)
def xaL (g : Nat) : Nat := 4 + 5 * g
def xaLd (g : Nat) : Nat := 4 + 5 * g + 1
def xaLf (g : Nat) : Nat := 4 + 5 * g + 2
def xaLs (g : Nat) : Nat := 4 + 5 * g + 3
def xT (ci : Nat → ClassId) : List (ClassId × FieldType) := [(ci 0, .int), (ci 1, .long), (ci 2, .boolean), (ci 3, .object "DueWheels$State"), (ci 4, .array .long)]
def xs (ad : Nat → Nat) (ci : Nat → ClassId) (j : Nat) (v : StV) (o : Nat) : va_E :=
  if o = 0 then .inr (4, [.long (s_tm v), .long (s_pl v), .long (s_go v), .long (s_mv v), .int (s_en v), .int (s_rs v), .ref (ad (xaD0 j)), .ref (ad (xaR0 j))])
  else if o = 1 then .inl (ci 4, 12, x_q (fun i => some (ad (xaD j i))))
  else if o = 14 then .inl (ci 4, 3, x_q (fun i => some (ad (xaR j i))))
  else if o < 14 then .inl (ci 1, 200, .inr (.inl (s_du v (o - 2))))
  else .inl (ci 1, 300, .inr (.inl (s_ro v (o - 15))))
def xl (ad : Nat → Nat) (ci : Nat → ClassId) (g : Nat) (w : LnV) (o : Nat) : va_E :=
  if o = 0 then .inr (2, [.int (l_sz w), .ref (ad (xaLd g)), .ref (ad (xaLf g)), .ref (ad (xaLs g))])
  else if o = 1 then .inl (ci 0, 200, .inl (l_du w))
  else if o = 2 then .inl (ci 1, 200, .inr (.inl (l_f1 w)))
  else .inl (ci 1, 200, .inr (.inl (l_f2 w)))
def xc (ad : Nat → Nat) (ci : Nat → ClassId) (st : Nat → StV) (ln : Nat → LnV) (sv : SvV) (kv : KvV) (cu : Nat) : Nat → va_E := fun k =>
  if k = 0 then .inr (5, [.ref (ad 1), .ref (ad 3), .ref (ad 8), .ref (ad (xaS cu))])
  else if k = 1 then .inr (1, [.ref (ad 2), .int (k_la kv), .int (k_sz kv)])
  else if k = 2 then .inl (ci 3, 6, x_q (fun i => some (ad (xaS (k_rg kv i)))))
  else if k = 3 then .inr (0, [.ref (ad (xaL 0))])
  else if k < 8 then xl ad ci 0 (ln 0) (k - 4)
  else if k = 8 then .inr (3, [.ref (ad (xaL 1)), .ref (ad 13), .ref (ad 14), .int (t_fz sv)])
  else if k < 13 then xl ad ci 1 (ln 1) (k - 9)
  else if k = 13 then .inl (ci 1, 200, .inr (.inl (t_sd sv)))
  else if k = 14 then .inl (ci 1, 200, .inr (.inl (t_fa sv)))
  else xs ad ci ((k - 15) / 18) (st ((k - 15) / 18)) ((k - 15) % 18)
def mc (ad : Nat → Nat) (ci : Nat → ClassId) (r : MmV) : Nat → va_E := fun k =>
  if k = 0 then .inr (6, [.ref (ad 1), .ref (ad 2), .int (m_kp r), .ref (ad 3), .int (m_gc r), .ref (ad 4), .ref (ad 5), .int (m_lc r), .ref (ad 6)])
  else if k = 1 then .inl (ci 1, 3705, .inr (.inl (m_s r)))
  else if k = 2 then .inl (ci 1, 22230, .inr (.inl (m_bf r)))
  else if k = 3 then .inl (ci 0, 200, .inl (m_gs r))
  else if k = 4 then .inl (ci 0, 200, .inl (m_lo r))
  else if k = 5 then .inl (ci 1, 200, .inr (.inl (m_tk r)))
  else .inl (ci 2, 200, .inl (m_fs r))
theorem xq_S {j : Nat} (h : j < 7) : xaS j < 141 := by unfold xaS; omega
theorem xq_D0 {j : Nat} (h : j < 7) : xaD0 j < 141 := by unfold xaD0; omega
theorem xq_R0 {j : Nat} (h : j < 7) : xaR0 j < 141 := by unfold xaR0; omega
theorem xq_D {j f : Nat} (h : j < 7) (hf : f < 12) : xaD j f < 141 := by unfold xaD; omega
theorem xq_R {j f : Nat} (h : j < 7) (hf : f < 3) : xaR j f < 141 := by unfold xaR; omega
theorem xq_L {g : Nat} (h : g < 2) : xaL g < 141 := by unfold xaL; omega
theorem xq_Ld {g : Nat} (h : g < 2) : xaLd g < 141 := by unfold xaLd; omega
theorem xq_Lf {g : Nat} (h : g < 2) : xaLf g < 141 := by unfold xaLf; omega
theorem xq_Ls {g : Nat} (h : g < 2) : xaLs g < 141 := by unfold xaLs; omega
section XW
variable {ad : Nat → Nat} {ci : Nat → ClassId} {st st' : Nat → StV} {ln ln' : Nat → LnV} {sv : SvV} {kv : KvV} {cu : Nat} {j g : Nat} {v : StV} {w : LnV}
theorem xc_st (o : Nat) (ho : o < 18) : xc ad ci st ln sv kv cu (15 + 18 * j + o) = xs ad ci j (st j) o := by
  unfold xc
  have h1 : (15 + 18 * j + o - 15) / 18 = j := by omega
  have h2 : (15 + 18 * j + o - 15) % 18 = o := by omega
  rw [if_neg (by omega), if_neg (by omega), if_neg (by omega), if_neg (by omega), if_neg (by omega), if_neg (by omega), if_neg (by omega), if_neg (by omega), if_neg (by omega), h1, h2]
theorem xc_ln (o : Nat) (ho : o < 4) (hg : g < 2) : xc ad ci st ln sv kv cu (4 + 5 * g + o) = xl ad ci g (ln g) o := by
  unfold xc
  rcases (show g = 0 ∨ g = 1 by omega) with rfl | rfl
  · rw [if_neg (by omega), if_neg (by omega), if_neg (by omega), if_neg (by omega), if_pos (by omega), show 4 + 5 * 0 + o - 4 = o by omega]
  · rw [if_neg (by omega), if_neg (by omega), if_neg (by omega), if_neg (by omega), if_neg (by omega), if_neg (by omega), if_pos (by omega), show 4 + 5 * 1 + o - 9 = o by omega]
theorem xe_S (hv : st j = v) : xc ad ci st ln sv kv cu (xaS j) = .inr (4, [.long (s_tm v), .long (s_pl v), .long (s_go v), .long (s_mv v), .int (s_en v), .int (s_rs v), .ref (ad (xaD0 j)), .ref (ad (xaR0 j))]) := by
  subst hv; exact xc_st 0 (by omega)
theorem xe_D0 : xc ad ci st ln sv kv cu (xaD0 j) = .inl (ci 4, 12, x_q (fun i => some (ad (xaD j i)))) := xc_st 1 (by omega)
theorem xe_R0 : xc ad ci st ln sv kv cu (xaR0 j) = .inl (ci 4, 3, x_q (fun i => some (ad (xaR j i)))) := xc_st 14 (by omega)
theorem xe_D {f : Nat} (hf : f < 12) (hv : st j = v) : xc ad ci st ln sv kv cu (xaD j f) = .inl (ci 1, 200, .inr (.inl (s_du v f))) := by
  subst hv
  unfold xaD
  rw [xc_st (2 + f) (by omega)]
  unfold xs
  rw [if_neg (by omega), if_neg (by omega), if_neg (by omega), if_pos (by omega), show 2 + f - 2 = f by omega]
theorem xe_R {f : Nat} (hf : f < 3) (hv : st j = v) : xc ad ci st ln sv kv cu (xaR j f) = .inl (ci 1, 300, .inr (.inl (s_ro v f))) := by
  subst hv
  unfold xaR
  rw [xc_st (15 + f) (by omega)]
  unfold xs
  rw [if_neg (by omega), if_neg (by omega), if_neg (by omega), if_neg (by omega), show 15 + f - 15 = f by omega]
theorem xe_L (hg : g < 2) (hw : ln g = w) : xc ad ci st ln sv kv cu (xaL g) = .inr (2, [.int (l_sz w), .ref (ad (xaLd g)), .ref (ad (xaLf g)), .ref (ad (xaLs g))]) := by
  subst hw; exact xc_ln 0 (by omega) hg
theorem xe_Ld (hg : g < 2) (hw : ln g = w) : xc ad ci st ln sv kv cu (xaLd g) = .inl (ci 0, 200, .inl (l_du w)) := by
  subst hw; exact xc_ln 1 (by omega) hg
theorem xe_Lf (hg : g < 2) (hw : ln g = w) : xc ad ci st ln sv kv cu (xaLf g) = .inl (ci 1, 200, .inr (.inl (l_f1 w))) := by
  subst hw; exact xc_ln 2 (by omega) hg
theorem xe_Ls (hg : g < 2) (hw : ln g = w) : xc ad ci st ln sv kv cu (xaLs g) = .inl (ci 1, 200, .inr (.inl (l_f2 w))) := by
  subst hw; exact xc_ln 3 (by omega) hg
theorem xe_X : xc ad ci st ln sv kv cu 0 = .inr (5, [.ref (ad 1), .ref (ad 3), .ref (ad 8), .ref (ad (xaS cu))]) := rfl
theorem xe_K : xc ad ci st ln sv kv cu 1 = .inr (1, [.ref (ad 2), .int (k_la kv), .int (k_sz kv)]) := rfl
theorem xe_RG : xc ad ci st ln sv kv cu 2 = .inl (ci 3, 6, x_q (fun i => some (ad (xaS (k_rg kv i))))) := rfl
theorem xe_G : xc ad ci st ln sv kv cu 3 = .inr (0, [.ref (ad (xaL 0))]) := rfl
theorem xe_T : xc ad ci st ln sv kv cu 8 = .inr (3, [.ref (ad (xaL 1)), .ref (ad 13), .ref (ad 14), .int (t_fz sv)]) := rfl
theorem xe_sd : xc ad ci st ln sv kv cu 13 = .inl (ci 1, 200, .inr (.inl (t_sd sv))) := rfl
theorem xe_fa : xc ad ci st ln sv kv cu 14 = .inl (ci 1, 200, .inr (.inl (t_fa sv))) := rfl
/-- one cell of a state is put anew -/
theorem xc_wst {v' : StV} (o : Nat) (ho : o < 18) (h : ∀ o', o' < 18 → o' ≠ o → xs ad ci j v' o' = xs ad ci j (st j) o') (hst : va_up st j v' = st') : ∀ i, i < 141 → xc ad ci st' ln sv kv cu i = va_up (xc ad ci st ln sv kv cu) (15 + 18 * j + o) (xs ad ci j v' o) i := by
  subst hst
  intro i _
  by_cases hi : i < 15
  · rw [va_up_ne _ _ (show i ≠ 15 + 18 * j + o by omega)]
    unfold xc
    by_cases h0 : i = 0
    · subst h0; rfl
    rw [if_neg h0, if_neg h0]
    by_cases h0 : i = 1
    · subst h0; rfl
    rw [if_neg h0, if_neg h0]
    by_cases h0 : i = 2
    · subst h0; rfl
    rw [if_neg h0, if_neg h0]
    by_cases h0 : i = 3
    · subst h0; rfl
    rw [if_neg h0, if_neg h0]
    by_cases h0 : i < 8
    · rw [if_pos h0, if_pos h0]
    rw [if_neg h0, if_neg h0]
    by_cases h0 : i = 8
    · subst h0; rfl
    rw [if_neg h0, if_neg h0]
    by_cases h0 : i < 13
    · rw [if_pos h0, if_pos h0]
    rw [if_neg h0, if_neg h0]
    by_cases h0 : i = 13
    · subst h0; rfl
    rw [if_neg h0, if_neg h0, if_pos (by omega), if_pos (by omega)]
  · obtain ⟨j', o', ho', rfl⟩ : ∃ j' o', o' < 18 ∧ i = 15 + 18 * j' + o' := ⟨(i - 15) / 18, (i - 15) % 18, by omega, by omega⟩
    rw [xc_st o' ho']
    by_cases hj : j' = j
    · subst hj
      rw [va_up_self]
      by_cases h2 : o' = o
      · subst h2; rw [va_up_self]
      · rw [va_up_ne _ _ (show 15 + 18 * j' + o' ≠ 15 + 18 * j' + o by omega), xc_st o' ho', h o' ho' h2]
    · rw [va_up_ne _ _ hj, va_up_ne _ _ (show 15 + 18 * j' + o' ≠ 15 + 18 * j + o by omega), xc_st o' ho']
theorem xc_wln {w' : LnV} (o : Nat) (ho : o < 4) (hg : g < 2) (h : ∀ o', o' < 4 → o' ≠ o → xl ad ci g w' o' = xl ad ci g (ln g) o') (hln : va_up ln g w' = ln') : ∀ i, i < 141 → xc ad ci st ln' sv kv cu i = va_up (xc ad ci st ln sv kv cu) (4 + 5 * g + o) (xl ad ci g w' o) i := by
  subst hln
  intro i _
  by_cases hi : ∃ g' o', g' < 2 ∧ o' < 4 ∧ i = 4 + 5 * g' + o'
  · obtain ⟨g', o', hg', ho', rfl⟩ := hi
    rw [xc_ln o' ho' hg']
    by_cases hj : g' = g
    · subst hj
      rw [va_up_self]
      by_cases h2 : o' = o
      · subst h2; rw [va_up_self]
      · rw [va_up_ne _ _ (show 4 + 5 * g' + o' ≠ 4 + 5 * g' + o by omega), xc_ln o' ho' hg', h o' ho' h2]
    · rw [va_up_ne _ _ hj, va_up_ne _ _ (show 4 + 5 * g' + o' ≠ 4 + 5 * g + o by omega), xc_ln o' ho' hg']
  · have n8 : ¬ (4 ≤ i ∧ i < 8) := fun q => hi ⟨0, i - 4, by omega, by omega, by omega⟩
    have n13 : ¬ (9 ≤ i ∧ i < 13) := fun q => hi ⟨1, i - 9, by omega, by omega, by omega⟩
    rw [va_up_ne _ _ (show i ≠ 4 + 5 * g + o by omega)]
    unfold xc
    by_cases h0 : i = 0
    · subst h0; rfl
    by_cases h1 : i = 1
    · subst h1; rfl
    by_cases h2 : i = 2
    · subst h2; rfl
    by_cases h3 : i = 3
    · subst h3; rfl
    by_cases h8 : i = 8
    · subst h8; rfl
    have n1 : ¬ i < 8 := by omega
    have n2 : ¬ i < 13 := by omega
    rw [if_neg h0, if_neg h0, if_neg h1, if_neg h1, if_neg h2, if_neg h2, if_neg h3, if_neg h3, if_neg n1, if_neg n1, if_neg h8, if_neg h8, if_neg n2, if_neg n2]
theorem xg_tm {x : Int64} (hv : st j = v) (hst : va_up st j (s_wtm v x) = st') : ∀ i, i < 141 → xc ad ci st' ln sv kv cu i = va_up (xc ad ci st ln sv kv cu) (xaS j) (.inr (4, [.long (s_tm v), .long (s_pl v), .long (s_go v), .long (s_mv v), .int (s_en v), .int (s_rs v), .ref (ad (xaD0 j)), .ref (ad (xaR0 j))].set 0 (.long x))) i := by
  subst hv
  refine xc_wst (v' := s_wtm (st j) x) 0 (by omega) (fun o' h1 h2 => ?_) hst
  unfold xs
  rw [if_neg h2, if_neg h2]
  rfl
theorem xg_pl {x : Int64} (hv : st j = v) (hst : va_up st j (s_wpl v x) = st') : ∀ i, i < 141 → xc ad ci st' ln sv kv cu i = va_up (xc ad ci st ln sv kv cu) (xaS j) (.inr (4, [.long (s_tm v), .long (s_pl v), .long (s_go v), .long (s_mv v), .int (s_en v), .int (s_rs v), .ref (ad (xaD0 j)), .ref (ad (xaR0 j))].set 1 (.long x))) i := by
  subst hv
  refine xc_wst (v' := s_wpl (st j) x) 0 (by omega) (fun o' h1 h2 => ?_) hst
  unfold xs
  rw [if_neg h2, if_neg h2]
  rfl
theorem xg_go {x : Int64} (hv : st j = v) (hst : va_up st j (s_wgo v x) = st') : ∀ i, i < 141 → xc ad ci st' ln sv kv cu i = va_up (xc ad ci st ln sv kv cu) (xaS j) (.inr (4, [.long (s_tm v), .long (s_pl v), .long (s_go v), .long (s_mv v), .int (s_en v), .int (s_rs v), .ref (ad (xaD0 j)), .ref (ad (xaR0 j))].set 2 (.long x))) i := by
  subst hv
  refine xc_wst (v' := s_wgo (st j) x) 0 (by omega) (fun o' h1 h2 => ?_) hst
  unfold xs
  rw [if_neg h2, if_neg h2]
  rfl
theorem xg_mv {x : Int64} (hv : st j = v) (hst : va_up st j (s_wmv v x) = st') : ∀ i, i < 141 → xc ad ci st' ln sv kv cu i = va_up (xc ad ci st ln sv kv cu) (xaS j) (.inr (4, [.long (s_tm v), .long (s_pl v), .long (s_go v), .long (s_mv v), .int (s_en v), .int (s_rs v), .ref (ad (xaD0 j)), .ref (ad (xaR0 j))].set 3 (.long x))) i := by
  subst hv
  refine xc_wst (v' := s_wmv (st j) x) 0 (by omega) (fun o' h1 h2 => ?_) hst
  unfold xs
  rw [if_neg h2, if_neg h2]
  rfl
theorem xg_en {x : Int32} (hv : st j = v) (hst : va_up st j (s_wen v x) = st') : ∀ i, i < 141 → xc ad ci st' ln sv kv cu i = va_up (xc ad ci st ln sv kv cu) (xaS j) (.inr (4, [.long (s_tm v), .long (s_pl v), .long (s_go v), .long (s_mv v), .int (s_en v), .int (s_rs v), .ref (ad (xaD0 j)), .ref (ad (xaR0 j))].set 4 (.int x))) i := by
  subst hv
  refine xc_wst (v' := s_wen (st j) x) 0 (by omega) (fun o' h1 h2 => ?_) hst
  unfold xs
  rw [if_neg h2, if_neg h2]
  rfl
theorem xg_rs {x : Int32} (hv : st j = v) (hst : va_up st j (s_wrs v x) = st') : ∀ i, i < 141 → xc ad ci st' ln sv kv cu i = va_up (xc ad ci st ln sv kv cu) (xaS j) (.inr (4, [.long (s_tm v), .long (s_pl v), .long (s_go v), .long (s_mv v), .int (s_en v), .int (s_rs v), .ref (ad (xaD0 j)), .ref (ad (xaR0 j))].set 5 (.int x))) i := by
  subst hv
  refine xc_wst (v' := s_wrs (st j) x) 0 (by omega) (fun o' h1 h2 => ?_) hst
  unfold xs
  rw [if_neg h2, if_neg h2]
  rfl
theorem xg_rdu {f : Nat} {r : Nat → Int64} (hf : f < 12) (hv : st j = v) (hst : va_up st j (s_rdu v f r) = st') : ∀ i, i < 141 → xc ad ci st' ln sv kv cu i = va_up (xc ad ci st ln sv kv cu) (xaD j f) (.inl (ci 1, 200, .inr (.inl r))) i := by
  subst hv
  have h0 : xs ad ci j (s_rdu (st j) f r) (2 + f) = .inl (ci 1, 200, .inr (.inl r)) := by
    unfold xs
    rw [if_neg (by omega), if_neg (by omega), if_neg (by omega), if_pos (by omega), show 2 + f - 2 = f by omega]
    show Sum.inl (ci 1, 200, Sum.inr (Sum.inl (va_up (s_du (st j)) f r f))) = _
    rw [va_up_self]
  rw [← h0]
  refine xc_wst (v' := s_rdu (st j) f r) (2 + f) (by omega) (fun o' h1 h2 => ?_) hst
  unfold xs
  by_cases h3 : o' = 0
  · subst h3; rfl
  rw [if_neg h3, if_neg h3]
  by_cases h3 : o' = 1
  · subst h3; rfl
  rw [if_neg h3, if_neg h3]
  by_cases h3 : o' = 14
  · subst h3; rfl
  rw [if_neg h3, if_neg h3]
  by_cases h3 : o' < 14
  · rw [if_pos h3, if_pos h3]
    show Sum.inl (ci 1, 200, Sum.inr (Sum.inl (va_up (s_du (st j)) f r (o' - 2)))) = _
    rw [va_up_ne _ _ (by omega)]
  · rw [if_neg h3, if_neg h3]; rfl
theorem xg_rro {f : Nat} {r : Nat → Int64} (hf : f < 3) (hv : st j = v) (hst : va_up st j (s_rro v f r) = st') : ∀ i, i < 141 → xc ad ci st' ln sv kv cu i = va_up (xc ad ci st ln sv kv cu) (xaR j f) (.inl (ci 1, 300, .inr (.inl r))) i := by
  subst hv
  have h0 : xs ad ci j (s_rro (st j) f r) (15 + f) = .inl (ci 1, 300, .inr (.inl r)) := by
    unfold xs
    rw [if_neg (by omega), if_neg (by omega), if_neg (by omega), if_neg (by omega), show 15 + f - 15 = f by omega]
    show Sum.inl (ci 1, 300, Sum.inr (Sum.inl (va_up (s_ro (st j)) f r f))) = _
    rw [va_up_self]
  rw [← h0]
  refine xc_wst (v' := s_rro (st j) f r) (15 + f) (by omega) (fun o' h1 h2 => ?_) hst
  unfold xs
  by_cases h3 : o' = 0
  · subst h3; rfl
  rw [if_neg h3, if_neg h3]
  by_cases h3 : o' = 1
  · subst h3; rfl
  rw [if_neg h3, if_neg h3]
  by_cases h3 : o' = 14
  · subst h3; rfl
  rw [if_neg h3, if_neg h3]
  by_cases h3 : o' < 14
  · rw [if_pos h3, if_pos h3]; rfl
  · rw [if_neg h3, if_neg h3]
    show Sum.inl (ci 1, 300, Sum.inr (Sum.inl (va_up (s_ro (st j)) f r (o' - 15)))) = _
    rw [va_up_ne _ _ (by omega)]
theorem xg_du {f k : Nat} {x : Int64} (hf : f < 12) (hv : st j = v) (hst : va_up st j (s_wdu v f k x) = st') : ∀ i, i < 141 → xc ad ci st' ln sv kv cu i = va_up (xc ad ci st ln sv kv cu) (xaD j f) (.inl (ci 1, 200, .inr (.inl (vp_updL (s_du v f) k x)))) i := xg_rdu hf hv hst
theorem xg_ro {f k : Nat} {x : Int64} (hf : f < 3) (hv : st j = v) (hst : va_up st j (s_wro v f k x) = st') : ∀ i, i < 141 → xc ad ci st' ln sv kv cu i = va_up (xc ad ci st ln sv kv cu) (xaR j f) (.inl (ci 1, 300, .inr (.inl (vp_updL (s_ro v f) k x)))) i := xg_rro hf hv hst
theorem xl_other {w w' : LnV} {o : Nat} (ho : o < 4) (h0 : o = 0 → l_sz w' = l_sz w) (h1 : o = 1 → l_du w' = l_du w) (h2 : o = 2 → l_f1 w' = l_f1 w) (h3 : o = 3 → l_f2 w' = l_f2 w) : xl ad ci g w' o = xl ad ci g w o := by
  rcases (show o = 0 ∨ o = 1 ∨ o = 2 ∨ o = 3 by omega) with rfl | rfl | rfl | rfl
  · show (Sum.inr (2, [Value.int (l_sz w'), .ref (ad (xaLd g)), .ref (ad (xaLf g)), .ref (ad (xaLs g))]) : va_E) = Sum.inr (2, [Value.int (l_sz w), .ref (ad (xaLd g)), .ref (ad (xaLf g)), .ref (ad (xaLs g))])
    rw [h0 rfl]
  · show Sum.inl (ci 0, 200, Sum.inl (l_du w')) = Sum.inl (ci 0, 200, Sum.inl (l_du w))
    rw [h1 rfl]
  · show Sum.inl (ci 1, 200, Sum.inr (Sum.inl (l_f1 w'))) = Sum.inl (ci 1, 200, Sum.inr (Sum.inl (l_f1 w)))
    rw [h2 rfl]
  · show Sum.inl (ci 1, 200, Sum.inr (Sum.inl (l_f2 w'))) = Sum.inl (ci 1, 200, Sum.inr (Sum.inl (l_f2 w)))
    rw [h3 rfl]
theorem xg_lsz {x : Int32} (hg : g < 2) (hw : ln g = w) (hln : va_up ln g (l_wsz w x) = ln') : ∀ i, i < 141 → xc ad ci st ln' sv kv cu i = va_up (xc ad ci st ln sv kv cu) (xaL g) (.inr (2, [.int (l_sz w), .ref (ad (xaLd g)), .ref (ad (xaLf g)), .ref (ad (xaLs g))].set 0 (.int x))) i := by
  subst hw
  exact xc_wln (w' := l_wsz (ln g) x) 0 (by omega) hg (fun o' h1 h2 => xl_other h1 (fun q => absurd q h2) (fun _ => rfl) (fun _ => rfl) (fun _ => rfl)) hln
theorem xg_ldu {x : Int32} {k : Nat} (hg : g < 2) (hw : ln g = w) (hln : va_up ln g (l_wdu w (upd (l_du w) k x)) = ln') : ∀ i, i < 141 → xc ad ci st ln' sv kv cu i = va_up (xc ad ci st ln sv kv cu) (xaLd g) (.inl (ci 0, 200, .inl (upd (l_du w) k x))) i := by
  subst hw
  exact xc_wln (w' := l_wdu (ln g) (upd (l_du (ln g)) k x)) 1 (by omega) hg (fun o' h1 h2 => xl_other h1 (fun _ => rfl) (fun q => absurd q h2) (fun _ => rfl) (fun _ => rfl)) hln
theorem xg_lf1 {x : Int64} {k : Nat} (hg : g < 2) (hw : ln g = w) (hln : va_up ln g (l_wf1 w (vp_updL (l_f1 w) k x)) = ln') : ∀ i, i < 141 → xc ad ci st ln' sv kv cu i = va_up (xc ad ci st ln sv kv cu) (xaLf g) (.inl (ci 1, 200, .inr (.inl (vp_updL (l_f1 w) k x)))) i := by
  subst hw
  exact xc_wln (w' := l_wf1 (ln g) (vp_updL (l_f1 (ln g)) k x)) 2 (by omega) hg (fun o' h1 h2 => xl_other h1 (fun _ => rfl) (fun _ => rfl) (fun q => absurd q h2) (fun _ => rfl)) hln
theorem xg_lf2 {x : Int64} {k : Nat} (hg : g < 2) (hw : ln g = w) (hln : va_up ln g (l_wf2 w (vp_updL (l_f2 w) k x)) = ln') : ∀ i, i < 141 → xc ad ci st ln' sv kv cu i = va_up (xc ad ci st ln sv kv cu) (xaLs g) (.inl (ci 1, 200, .inr (.inl (vp_updL (l_f2 w) k x)))) i := by
  subst hw
  exact xc_wln (w' := l_wf2 (ln g) (vp_updL (l_f2 (ln g)) k x)) 3 (by omega) hg (fun o' h1 h2 => xl_other h1 (fun _ => rfl) (fun _ => rfl) (fun _ => rfl) (fun q => absurd q h2)) hln
theorem xg_tfz {x : Int32} : ∀ i, i < 141 → xc ad ci st ln (t_wfz sv x) kv cu i = va_up (xc ad ci st ln sv kv cu) 8 (.inr (3, [.ref (ad (xaL 1)), .ref (ad 13), .ref (ad 14), .int (t_fz sv)].set 3 (.int x))) i := by
  intro i _
  by_cases hi : i = 8
  · subst hi; rw [va_up_self]; rfl
  · rw [va_up_ne _ _ hi]
    unfold xc
    repeat' split
    all_goals first | rfl | omega
theorem xg_tsd {x : Int64} {k : Nat} : ∀ i, i < 141 → xc ad ci st ln (t_wsd sv (vp_updL (t_sd sv) k x)) kv cu i = va_up (xc ad ci st ln sv kv cu) 13 (.inl (ci 1, 200, .inr (.inl (vp_updL (t_sd sv) k x)))) i := by
  intro i _
  by_cases hi : i = 13
  · subst hi; rw [va_up_self]; rfl
  · rw [va_up_ne _ _ hi]
    unfold xc
    repeat' split
    all_goals first | rfl | omega
theorem xg_tfa {x : Int64} {k : Nat} : ∀ i, i < 141 → xc ad ci st ln (t_wfa sv (vp_updL (t_fa sv) k x)) kv cu i = va_up (xc ad ci st ln sv kv cu) 14 (.inl (ci 1, 200, .inr (.inl (vp_updL (t_fa sv) k x)))) i := by
  intro i _
  by_cases hi : i = 14
  · subst hi; rw [va_up_self]; rfl
  · rw [va_up_ne _ _ hi]
    unfold xc
    repeat' split
    all_goals first | rfl | omega
theorem xg_kla {x : Int32} : ∀ i, i < 141 → xc ad ci st ln sv (k_wla kv x) cu i = va_up (xc ad ci st ln sv kv cu) 1 (.inr (1, [.ref (ad 2), .int (k_la kv), .int (k_sz kv)].set 1 (.int x))) i := by
  intro i _
  by_cases hi : i = 1
  · subst hi; rw [va_up_self]; rfl
  · rw [va_up_ne _ _ hi]
    unfold xc
    repeat' split
    all_goals first | rfl | omega
theorem xg_ksz {x : Int32} : ∀ i, i < 141 → xc ad ci st ln sv (k_wsz kv x) cu i = va_up (xc ad ci st ln sv kv cu) 1 (.inr (1, [.ref (ad 2), .int (k_la kv), .int (k_sz kv)].set 2 (.int x))) i := by
  intro i _
  by_cases hi : i = 1
  · subst hi; rw [va_up_self]; rfl
  · rw [va_up_ne _ _ hi]
    unfold xc
    repeat' split
    all_goals first | rfl | omega
theorem xg_cu {x : Nat} : ∀ i, i < 141 → xc ad ci st ln sv kv x i = va_up (xc ad ci st ln sv kv cu) 0 (.inr (5, [.ref (ad 1), .ref (ad 3), .ref (ad 8), .ref (ad (xaS cu))].set 3 (.ref (ad (xaS x))))) i := by
  intro i _
  by_cases hi : i = 0
  · subst hi; rw [va_up_self]; rfl
  · rw [va_up_ne _ _ hi]
    unfold xc
    repeat' split
    all_goals first | rfl | omega
theorem xg_krg {x k : Nat} : ∀ i, i < 141 → xc ad ci st ln sv (k_wrg kv (va_up (k_rg kv) k x)) cu i = va_up (xc ad ci st ln sv kv cu) 2 (.inl (ci 3, 6, x_q (va_up (fun i => some (ad (xaS (k_rg kv i)))) k (some (ad (xaS x)))))) i := by
  intro i _
  by_cases hi : i = 2
  · subst hi
    rw [va_up_self]
    show Sum.inl (ci 3, 6, x_q (fun i => some (ad (xaS (va_up (k_rg kv) k x i))))) = _
    congr 4
    funext a
    by_cases ha : a = k
    · subst ha; rw [va_up_self, va_up_self]
    · rw [va_up_ne _ _ ha, va_up_ne _ _ ha]
  · rw [va_up_ne _ _ hi]
    unfold xc
    repeat' split
    all_goals first | rfl | omega
end XW
section XM
variable {ad : Nat → Nat} {ci : Nat → ClassId} {r : MmV}
theorem me_M : mc ad ci r 0 = .inr (6, [.ref (ad 1), .ref (ad 2), .int (m_kp r), .ref (ad 3), .int (m_gc r), .ref (ad 4), .ref (ad 5), .int (m_lc r), .ref (ad 6)]) := rfl
theorem me_s : mc ad ci r 1 = .inl (ci 1, 3705, .inr (.inl (m_s r))) := rfl
theorem me_bf : mc ad ci r 2 = .inl (ci 1, 22230, .inr (.inl (m_bf r))) := rfl
theorem me_gs : mc ad ci r 3 = .inl (ci 0, 200, .inl (m_gs r)) := rfl
theorem me_lo : mc ad ci r 4 = .inl (ci 0, 200, .inl (m_lo r)) := rfl
theorem me_tk : mc ad ci r 5 = .inl (ci 1, 200, .inr (.inl (m_tk r))) := rfl
theorem me_fs : mc ad ci r 6 = .inl (ci 2, 200, .inl (m_fs r)) := rfl
theorem mg_kp {x : Int32} : ∀ i, i < 7 → mc ad ci (m_wkp r x) i = va_up (mc ad ci r) 0 (.inr (6, [.ref (ad 1), .ref (ad 2), .int (m_kp r), .ref (ad 3), .int (m_gc r), .ref (ad 4), .ref (ad 5), .int (m_lc r), .ref (ad 6)].set 2 (.int x))) i := by
  intro i _
  by_cases hi : i = 0
  · subst hi; rw [va_up_self]; rfl
  · rw [va_up_ne _ _ hi]
    unfold mc
    repeat' split
    all_goals first | rfl | omega
theorem mg_gc {x : Int32} : ∀ i, i < 7 → mc ad ci (m_wgc r x) i = va_up (mc ad ci r) 0 (.inr (6, [.ref (ad 1), .ref (ad 2), .int (m_kp r), .ref (ad 3), .int (m_gc r), .ref (ad 4), .ref (ad 5), .int (m_lc r), .ref (ad 6)].set 4 (.int x))) i := by
  intro i _
  by_cases hi : i = 0
  · subst hi; rw [va_up_self]; rfl
  · rw [va_up_ne _ _ hi]
    unfold mc
    repeat' split
    all_goals first | rfl | omega
theorem mg_lc {x : Int32} : ∀ i, i < 7 → mc ad ci (m_wlc r x) i = va_up (mc ad ci r) 0 (.inr (6, [.ref (ad 1), .ref (ad 2), .int (m_kp r), .ref (ad 3), .int (m_gc r), .ref (ad 4), .ref (ad 5), .int (m_lc r), .ref (ad 6)].set 7 (.int x))) i := by
  intro i _
  by_cases hi : i = 0
  · subst hi; rw [va_up_self]; rfl
  · rw [va_up_ne _ _ hi]
    unfold mc
    repeat' split
    all_goals first | rfl | omega
theorem mg_s {x : Int64} {k : Nat} : ∀ i, i < 7 → mc ad ci (m_ws r (vp_updL (m_s r) k x)) i = va_up (mc ad ci r) 1 (.inl (ci 1, 3705, .inr (.inl (vp_updL (m_s r) k x)))) i := by
  intro i _
  by_cases hi : i = 1
  · subst hi; rw [va_up_self]; rfl
  · rw [va_up_ne _ _ hi]
    unfold mc
    repeat' split
    all_goals first | rfl | omega
theorem mg_bf {x : Int64} {k : Nat} : ∀ i, i < 7 → mc ad ci (m_wbf r (vp_updL (m_bf r) k x)) i = va_up (mc ad ci r) 2 (.inl (ci 1, 22230, .inr (.inl (vp_updL (m_bf r) k x)))) i := by
  intro i _
  by_cases hi : i = 2
  · subst hi; rw [va_up_self]; rfl
  · rw [va_up_ne _ _ hi]
    unfold mc
    repeat' split
    all_goals first | rfl | omega
theorem mg_gs {x : Int32} {k : Nat} : ∀ i, i < 7 → mc ad ci (m_wgs r (upd (m_gs r) k x)) i = va_up (mc ad ci r) 3 (.inl (ci 0, 200, .inl (upd (m_gs r) k x))) i := by
  intro i _
  by_cases hi : i = 3
  · subst hi; rw [va_up_self]; rfl
  · rw [va_up_ne _ _ hi]
    unfold mc
    repeat' split
    all_goals first | rfl | omega
theorem mg_lo {x : Int32} {k : Nat} : ∀ i, i < 7 → mc ad ci (m_wlo r (upd (m_lo r) k x)) i = va_up (mc ad ci r) 4 (.inl (ci 0, 200, .inl (upd (m_lo r) k x))) i := by
  intro i _
  by_cases hi : i = 4
  · subst hi; rw [va_up_self]; rfl
  · rw [va_up_ne _ _ hi]
    unfold mc
    repeat' split
    all_goals first | rfl | omega
theorem mg_tk {x : Int64} {k : Nat} : ∀ i, i < 7 → mc ad ci (m_wtk r (vp_updL (m_tk r) k x)) i = va_up (mc ad ci r) 5 (.inl (ci 1, 200, .inr (.inl (vp_updL (m_tk r) k x)))) i := by
  intro i _
  by_cases hi : i = 5
  · subst hi; rw [va_up_self]; rfl
  · rw [va_up_ne _ _ hi]
    unfold mc
    repeat' split
    all_goals first | rfl | omega
theorem mg_fs {x : Int32} {k : Nat} : ∀ i, i < 7 → mc ad ci (m_wfs r (upd (m_fs r) k (vp_nar .boolean x))) i = va_up (mc ad ci r) 6 (.inl (ci 2, 200, .inl (upd (m_fs r) k (vp_nar .boolean x)))) i := by
  intro i _
  by_cases hi : i = 6
  · subst hi; rw [va_up_self]; rfl
  · rw [va_up_ne _ _ hi]
    unfold mc
    repeat' split
    all_goals first | rfl | omega
end XM
end
section
theorem dX5_wheelOf_0 : decode cX5_wheelOf 0 = .ok (.iconst 0, 1) := by decide +kernel
theorem dX5_wheelOf_1 : decode cX5_wheelOf 1 = .ok (.istore 4, 2) := by decide +kernel
theorem dX5_wheelOf_3 : decode cX5_wheelOf 3 = .ok (.iload 4, 2) := by decide +kernel
theorem dX5_wheelOf_5 : decode cX5_wheelOf 5 = .ok (.iconst 5, 1) := by decide +kernel
theorem dX5_wheelOf_6 : decode cX5_wheelOf 6 = .ok (.if_icmp .ge 33, 3) := by decide +kernel
theorem dX5_wheelOf_9 : decode cX5_wheelOf 9 = .ok (.bipush 6, 2) := by decide +kernel
theorem dX5_wheelOf_11 : decode cX5_wheelOf 11 = .ok (.iload 4, 2) := by decide +kernel
theorem dX5_wheelOf_13 : decode cX5_wheelOf 13 = .ok (.iconst 1, 1) := by decide +kernel
theorem dX5_wheelOf_14 : decode cX5_wheelOf 14 = .ok (.iadd, 1) := by decide +kernel
theorem dX5_wheelOf_15 : decode cX5_wheelOf 15 = .ok (.imul, 1) := by decide +kernel
theorem dX5_wheelOf_16 : decode cX5_wheelOf 16 = .ok (.istore 5, 2) := by decide +kernel
theorem dX5_wheelOf_18 : decode cX5_wheelOf 18 = .ok (.lload_n 0, 1) := by decide +kernel
theorem dX5_wheelOf_19 : decode cX5_wheelOf 19 = .ok (.iload 5, 2) := by decide +kernel
theorem dX5_wheelOf_21 : decode cX5_wheelOf 21 = .ok (.lshr, 1) := by decide +kernel
theorem dX5_wheelOf_22 : decode cX5_wheelOf 22 = .ok (.lload_n 2, 1) := by decide +kernel
theorem dX5_wheelOf_23 : decode cX5_wheelOf 23 = .ok (.iload 5, 2) := by decide +kernel
theorem dX5_wheelOf_25 : decode cX5_wheelOf 25 = .ok (.lshr, 1) := by decide +kernel
theorem dX5_wheelOf_26 : decode cX5_wheelOf 26 = .ok (.lcmp, 1) := by decide +kernel
theorem dX5_wheelOf_27 : decode cX5_wheelOf 27 = .ok (.ifCond .ne 6, 3) := by decide +kernel
theorem dX5_wheelOf_30 : decode cX5_wheelOf 30 = .ok (.iload 4, 2) := by decide +kernel
theorem dX5_wheelOf_32 : decode cX5_wheelOf 32 = .ok (.ireturn, 1) := by decide +kernel
theorem dX5_wheelOf_33 : decode cX5_wheelOf 33 = .ok (.iinc 4 1, 3) := by decide +kernel
theorem dX5_wheelOf_36 : decode cX5_wheelOf 36 = .ok (.goto (-33), 3) := by decide +kernel
theorem dX5_wheelOf_39 : decode cX5_wheelOf 39 = .ok (.iconst 5, 1) := by decide +kernel
theorem dX5_wheelOf_40 : decode cX5_wheelOf 40 = .ok (.ireturn, 1) := by decide +kernel
theorem dX5_slotOf_0 : decode cX5_slotOf 0 = .ok (.iload_n 0, 1) := by decide +kernel
theorem dX5_slotOf_1 : decode cX5_slotOf 1 = .ok (.iconst 5, 1) := by decide +kernel
theorem dX5_slotOf_2 : decode cX5_slotOf 2 = .ok (.if_icmp .lt 7, 3) := by decide +kernel
theorem dX5_slotOf_5 : decode cX5_slotOf 5 = .ok (.iconst 0, 1) := by decide +kernel
theorem dX5_slotOf_6 : decode cX5_slotOf 6 = .ok (.goto 14, 3) := by decide +kernel
theorem dX5_slotOf_9 : decode cX5_slotOf 9 = .ok (.lload_n 1, 1) := by decide +kernel
theorem dX5_slotOf_10 : decode cX5_slotOf 10 = .ok (.bipush 6, 2) := by decide +kernel
theorem dX5_slotOf_12 : decode cX5_slotOf 12 = .ok (.iload_n 0, 1) := by decide +kernel
theorem dX5_slotOf_13 : decode cX5_slotOf 13 = .ok (.imul, 1) := by decide +kernel
theorem dX5_slotOf_14 : decode cX5_slotOf 14 = .ok (.lshr, 1) := by decide +kernel
theorem dX5_slotOf_15 : decode cX5_slotOf 15 = .ok (.ldc2_w 9, 3) := by decide +kernel
theorem dX5_slotOf_18 : decode cX5_slotOf 18 = .ok (.land, 1) := by decide +kernel
theorem dX5_slotOf_19 : decode cX5_slotOf 19 = .ok (.l2i, 1) := by decide +kernel
theorem dX5_slotOf_20 : decode cX5_slotOf 20 = .ok (.ireturn, 1) := by decide +kernel
theorem dX5_isSlot_0 : decode cX5_isSlot 0 = .ok (.iload_n 0, 1) := by decide +kernel
theorem dX5_isSlot_1 : decode cX5_isSlot 1 = .ok (.iconst 5, 1) := by decide +kernel
theorem dX5_isSlot_2 : decode cX5_isSlot 2 = .ok (.if_icmp .ne 13, 3) := by decide +kernel
theorem dX5_isSlot_5 : decode cX5_isSlot 5 = .ok (.iload_n 1, 1) := by decide +kernel
theorem dX5_isSlot_6 : decode cX5_isSlot 6 = .ok (.ifCond .ne 7, 3) := by decide +kernel
theorem dX5_isSlot_9 : decode cX5_isSlot 9 = .ok (.iconst 1, 1) := by decide +kernel
theorem dX5_isSlot_10 : decode cX5_isSlot 10 = .ok (.goto 4, 3) := by decide +kernel
theorem dX5_isSlot_13 : decode cX5_isSlot 13 = .ok (.iconst 0, 1) := by decide +kernel
theorem dX5_isSlot_14 : decode cX5_isSlot 14 = .ok (.ireturn, 1) := by decide +kernel
theorem dX5_isSlot_15 : decode cX5_isSlot 15 = .ok (.iload_n 0, 1) := by decide +kernel
theorem dX5_isSlot_16 : decode cX5_isSlot 16 = .ok (.ifCond .lt 22, 3) := by decide +kernel
theorem dX5_isSlot_19 : decode cX5_isSlot 19 = .ok (.iload_n 0, 1) := by decide +kernel
theorem dX5_isSlot_20 : decode cX5_isSlot 20 = .ok (.iconst 5, 1) := by decide +kernel
theorem dX5_isSlot_21 : decode cX5_isSlot 21 = .ok (.if_icmp .ge 17, 3) := by decide +kernel
theorem dX5_isSlot_24 : decode cX5_isSlot 24 = .ok (.iload_n 1, 1) := by decide +kernel
theorem dX5_isSlot_25 : decode cX5_isSlot 25 = .ok (.ifCond .lt 13, 3) := by decide +kernel
theorem dX5_isSlot_28 : decode cX5_isSlot 28 = .ok (.iload_n 1, 1) := by decide +kernel
theorem dX5_isSlot_29 : decode cX5_isSlot 29 = .ok (.bipush 64, 2) := by decide +kernel
theorem dX5_isSlot_31 : decode cX5_isSlot 31 = .ok (.if_icmp .ge 7, 3) := by decide +kernel
theorem dX5_isSlot_34 : decode cX5_isSlot 34 = .ok (.iconst 1, 1) := by decide +kernel
theorem dX5_isSlot_35 : decode cX5_isSlot 35 = .ok (.goto 4, 3) := by decide +kernel
theorem dX5_isSlot_38 : decode cX5_isSlot 38 = .ok (.iconst 0, 1) := by decide +kernel
theorem dX5_isSlot_39 : decode cX5_isSlot 39 = .ok (.ireturn, 1) := by decide +kernel
set_option maxRecDepth 20000 in
theorem ggX5_movesDown_X5_wheelOf : GoodIn wsX5_movesDown wsX5_wheelOf := goodIn_r _ [4] (by decide +kernel) (by decide +kernel)
set_option maxRecDepth 20000 in
theorem gX5_movesDown_X5_wheelOf : GoodIn wsX5_movesDown (va_wsS RX5 11 yX5_wheelOf wsX5_wheelOf) := goodIn_app (goodIn_of _ (by decide +kernel)) ggX5_movesDown_X5_wheelOf
theorem dX5_movesDown_0 : decode cX5_movesDown 0 = .ok (.lload_n 0, 1) := by decide +kernel
theorem dX5_movesDown_1 : decode cX5_movesDown 1 = .ok (.lload 4, 2) := by decide +kernel
theorem dX5_movesDown_3 : decode cX5_movesDown 3 = .ok (.invokestatic 11, 3) := by decide +kernel
theorem dX5_movesDown_6 : decode cX5_movesDown 6 = .ok (.istore 6, 2) := by decide +kernel
theorem dX5_movesDown_8 : decode cX5_movesDown 8 = .ok (.iconst 0, 1) := by decide +kernel
theorem dX5_movesDown_9 : decode cX5_movesDown 9 = .ok (.istore 7, 2) := by decide +kernel
theorem dX5_movesDown_11 : decode cX5_movesDown 11 = .ok (.iconst 0, 1) := by decide +kernel
theorem dX5_movesDown_12 : decode cX5_movesDown 12 = .ok (.istore 8, 2) := by decide +kernel
theorem dX5_movesDown_14 : decode cX5_movesDown 14 = .ok (.iload 8, 2) := by decide +kernel
theorem dX5_movesDown_16 : decode cX5_movesDown 16 = .ok (.iconst 5, 1) := by decide +kernel
theorem dX5_movesDown_17 : decode cX5_movesDown 17 = .ok (.if_icmp .ge 53, 3) := by decide +kernel
theorem dX5_movesDown_20 : decode cX5_movesDown 20 = .ok (.iload 6, 2) := by decide +kernel
theorem dX5_movesDown_22 : decode cX5_movesDown 22 = .ok (.ifCond .le 48, 3) := by decide +kernel
theorem dX5_movesDown_25 : decode cX5_movesDown 25 = .ok (.bipush 6, 2) := by decide +kernel
theorem dX5_movesDown_27 : decode cX5_movesDown 27 = .ok (.iload 6, 2) := by decide +kernel
theorem dX5_movesDown_29 : decode cX5_movesDown 29 = .ok (.imul, 1) := by decide +kernel
theorem dX5_movesDown_30 : decode cX5_movesDown 30 = .ok (.istore 9, 2) := by decide +kernel
theorem dX5_movesDown_32 : decode cX5_movesDown 32 = .ok (.lload 4, 2) := by decide +kernel
theorem dX5_movesDown_34 : decode cX5_movesDown 34 = .ok (.iload 9, 2) := by decide +kernel
theorem dX5_movesDown_36 : decode cX5_movesDown 36 = .ok (.lshr, 1) := by decide +kernel
theorem dX5_movesDown_37 : decode cX5_movesDown 37 = .ok (.iload 9, 2) := by decide +kernel
theorem dX5_movesDown_39 : decode cX5_movesDown 39 = .ok (.lshl, 1) := by decide +kernel
theorem dX5_movesDown_40 : decode cX5_movesDown 40 = .ok (.lstore 10, 2) := by decide +kernel
theorem dX5_movesDown_42 : decode cX5_movesDown 42 = .ok (.lload 10, 2) := by decide +kernel
theorem dX5_movesDown_44 : decode cX5_movesDown 44 = .ok (.lload_n 2, 1) := by decide +kernel
theorem dX5_movesDown_45 : decode cX5_movesDown 45 = .ok (.lcmp, 1) := by decide +kernel
theorem dX5_movesDown_46 : decode cX5_movesDown 46 = .ok (.ifCond .le 6, 3) := by decide +kernel
theorem dX5_movesDown_49 : decode cX5_movesDown 49 = .ok (.goto 21, 3) := by decide +kernel
theorem dX5_movesDown_52 : decode cX5_movesDown 52 = .ok (.lload 10, 2) := by decide +kernel
theorem dX5_movesDown_54 : decode cX5_movesDown 54 = .ok (.lload 4, 2) := by decide +kernel
theorem dX5_movesDown_56 : decode cX5_movesDown 56 = .ok (.invokestatic 11, 3) := by decide +kernel
theorem dX5_movesDown_59 : decode cX5_movesDown 59 = .ok (.istore 6, 2) := by decide +kernel
theorem dX5_movesDown_61 : decode cX5_movesDown 61 = .ok (.iinc 7 1, 3) := by decide +kernel
theorem dX5_movesDown_64 : decode cX5_movesDown 64 = .ok (.iinc 8 1, 3) := by decide +kernel
theorem dX5_movesDown_67 : decode cX5_movesDown 67 = .ok (.goto (-53), 3) := by decide +kernel
theorem dX5_movesDown_70 : decode cX5_movesDown 70 = .ok (.iload 7, 2) := by decide +kernel
theorem dX5_movesDown_72 : decode cX5_movesDown 72 = .ok (.ireturn, 1) := by decide +kernel
end
section
abbrev rmX5_wheelOf : Room := { frames := 0, cells := 0, slots := 0, locals := 0 }
def LX5_wheelOf_3   (x0 : Int64) (x2 : Int64)  (post : Int32 → Prop) : Nat → Int32 → Prop
  | 0, _ => False
  | n + 1, x4 => (((5 : Int32) ≤ x4 → post (5 : Int32)) ∧ (¬ (5 : Int32) ≤ x4 → ∀ x5_2 : Int32, x5_2 = ((6 : Int32) * (x4 + (1 : Int32))) → (((x0 >>> (x5_2.toInt64 &&& 63)) = (x2 >>> (x5_2.toInt64 &&& 63)) → post x4) ∧ (¬ (x0 >>> (x5_2.toInt64 &&& 63)) = (x2 >>> (x5_2.toInt64 &&& 63)) → ∀ x4_4 : Int32, x4_4 = x4 + 1 → LX5_wheelOf_3  x0 x2 post n x4_4))))
set_option maxHeartbeats 4000000 in
set_option maxRecDepth 100000 in
theorem kX5_wheelOf_3 {p : Program} {e : Env} {s : State} {m : MethodId} {args : Array Value} {below : List Frame} {meth : Method} {c : Code} (l : Launch) (dC : Nat → ClassId) (dI : Nat → Nat → Nat) (nn : Nat) (ad : Nat → Nat) (ff : Nat → va_E) (tys : List (ClassId × FieldType)) (A : Nat → Prop)  (x0 : Int64) (x2 : Int64)  (post : Int32 → Prop) (C0 : xC p s m args meth c cX5_wheelOf 6 (some .int) RX5 wsX5_wheelOf (dC, dI) tys) : ∀ (n : Nat) (x4 : Int32) (H : Heap) (locs : List Loc) (ls : Array Slot), LX5_wheelOf_3  x0 x2 post n x4 → va_P (dC, dI) vwCl (xw nn ad ff) H → va_S A s.heap H locs → lv_has ls 6 [(0, .long x0), (2, .long x2), (4, .int x4)] → W p l e rmX5_wheelOf s m args below meth c H locs 0 0 (MQ below (va_Qi (fun r9 (u : Unit) => post r9 ) (fun u t => va_P (dC, dI) vwCl (xw nn ad ff) t.heap) A) args s 0 0 A) (F0 m 3 ls []) := by
  obtain ⟨hx, hb, -, hr, hlocks, hown, hts, hK⟩ := id C0
  intro n
  induction n with
  | zero =>
    intro x4 H locs ls h
    exact False.elim h
  | succ n ih =>
    intro x4 H locs ls h hP hS hl
    rw [LX5_wheelOf_3] at h
    refine lv_iload hx hb dX5_wheelOf_3 (lv_at hl 2 rfl) ?_
    refine lv_iconst (v := (5 : Int32)) hx hb dX5_wheelOf_5 (by decide) ?_
    refine lv_icmp_ge (tgt := 39) hx hb dX5_wheelOf_6 (by decide) (fun c_1 => ?_) (fun c_1 => ?_)
    · have h := h.1 c_1
      refine lv_iconst (v := (5 : Int32)) hx hb dX5_wheelOf_39 (by decide) ?_
      exact W.iret (v := (5 : Int32)) hx hb hr (fun t ht hW => ⟨⟨(5 : Int32), (), rfl, h, x_ht ht hP⟩, hS.F ht⟩) hS.2.2 dX5_wheelOf_40
    · have h := h.2 c_1
      refine lv_bipush (v := (6 : Int32)) hx hb dX5_wheelOf_9 (by decide) ?_
      refine lv_iload hx hb dX5_wheelOf_11 (lv_at hl 2 rfl) ?_
      refine lv_iconst (v := (1 : Int32)) hx hb dX5_wheelOf_13 (by decide) ?_
      refine lv_iadd hx hb dX5_wheelOf_14 ?_
      refine lv_imul hx hb dX5_wheelOf_15 ?_
      refine lv_topi (fun x5_2 ex5_2 => ?_)
      have h := h x5_2 ex5_2
      refine lv_istore (lv' := [(5, .int x5_2), (0, .long x0), (2, .long x2), (4, .int x4)]) hx hb dX5_wheelOf_16 hl (by decide) rfl (fun ls hl => ?_)
      refine lv_lload_n hx hb dX5_wheelOf_18 rfl (lv_at hl 1 rfl) ?_
      refine lv_iload hx hb dX5_wheelOf_19 (lv_at hl 0 rfl) ?_
      refine lv_lshr hx hb dX5_wheelOf_21 rfl ?_
      refine lv_lload_n hx hb dX5_wheelOf_22 rfl (lv_at hl 2 rfl) ?_
      refine lv_iload hx hb dX5_wheelOf_23 (lv_at hl 0 rfl) ?_
      refine lv_lshr hx hb dX5_wheelOf_25 rfl ?_
      refine xr_if_lcmp_ne (tgt := 33) hx hb dX5_wheelOf_26 dX5_wheelOf_27 (by decide) (fun c_3 => ?_) (fun c_3 => ?_)
      · have h := h.2 c_3
        obtain ⟨x4_4, ex4_4⟩ : ∃ z : Int32, z = x4 + 1 := ⟨_, rfl⟩
        have h := h x4_4 ex4_4
        refine lv_iinc (v := x4_4) (lv' := [(4, .int x4_4), (5, .int x5_2), (0, .long x0), (2, .long x2)]) hx hb dX5_wheelOf_33 hl (k := 3) rfl (by rw [ex4_4]; rfl) (by decide) rfl (fun ls hl => ?_)
        refine lv_goto (tgt := 3) hx hb dX5_wheelOf_36 (by decide) ?_
        exact ih x4_4 _ _ _ h hP hS (lv_sub hl [2, 3, 0] rfl)
      · have h := h.1 c_3
        refine lv_iload hx hb dX5_wheelOf_30 (lv_at hl 3 rfl) ?_
        exact W.iret (v := x4) hx hb hr (fun t ht hW => ⟨⟨x4, (), rfl, h, x_ht ht hP⟩, hS.F ht⟩) hS.2.2 dX5_wheelOf_32
def PX5_wheelOf   (x0 : Int64) (x2 : Int64) (post : Int32 → Prop) : Prop :=
  (∃ n_5 : Nat, LX5_wheelOf_3  x0 x2  post n_5 (0 : Int32))
set_option maxHeartbeats 4000000 in
set_option maxRecDepth 100000 in
theorem qX5_wheelOf (l : Launch) (dC : Nat → ClassId) (dI : Nat → Nat → Nat) (nn : Nat) (ad : Nat → Nat) (ff : Nat → va_E) (tys : List (ClassId × FieldType)) (A : Nat → Prop)  (x0 : Int64) (x2 : Int64) (post : Int32 → Prop) (h : PX5_wheelOf x0 x2 post) : Met l yX5_wheelOf wsX5_wheelOf rmX5_wheelOf (va_Pc [.long x0, .long x2] (fun U => va_P (dC, dI) vwCl (xw nn ad ff) U.heap ∧ va_K (dC, dI) vwCl tys U)) (va_Qi (fun r9 (u : Unit) => post r9 ) (fun u t => va_P (dC, dI) vwCl (xw nn ad ff) t.heap) A) 0 0 A := by
  refine Met.ofW (cc := cX5_wheelOf) (maxL := 6) (ret := (some .int)) (by decide) rfl ?_
  intro p e s m args below meth c s₁ B hml hv
  obtain ⟨eargs, hP, hK⟩ := hv
  have C0 : xC p s m args meth c cX5_wheelOf 6 (some .int) RX5 wsX5_wheelOf (dC, dI) tys := ⟨B.exec, B.bytes, hml, B.returns, B.notSynchronized, findClass_of_methodNamed B.named, atoms_spec (ws := wsX5_wheelOf) B.pre, hK⟩
  obtain ⟨hx, hb, -, hr, hlocks, hown, hts, -⟩ := id C0
  have hS : va_S A s.heap s.heap [] := va_S.rf
  have hl := lv_entry ([.long x0, .long x2]) (n := 6) (Nat.le_of_ble_eq_true rfl)
  have ef : entryFrame m args 6 = entryFrame m ([.long x0, .long x2] : List Value).toArray 6 := by rw [eargs]
  rw [ef, lg_entry_eq]
  generalize (lg_sl ([.long x0, .long x2]) ++ List.replicate (6 - (lg_sl ([.long x0, .long x2])).length) Slot.unset).toArray = ls at hl ⊢
  have hl : lv_has ls 6 [(0, .long x0), (2, .long x2)] := hl
  have hP : va_P (dC, dI) vwCl (xw nn ad ff) s.heap := hP
  unfold PX5_wheelOf at h
  refine lv_iconst (v := (0 : Int32)) hx hb dX5_wheelOf_0 (by decide) ?_
  refine lv_istore (lv' := [(4, .int (0 : Int32)), (0, .long x0), (2, .long x2)]) hx hb dX5_wheelOf_1 hl (by decide) rfl (fun ls hl => ?_)
  obtain ⟨n_5, h⟩ := h
  exact kX5_wheelOf_3 l dC dI nn ad ff tys A    x0 x2  post C0  n_5 (0 : Int32) _ _ _ h hP hS (lv_sub hl [1, 2, 0] rfl)
abbrev rmX5_movesDown : Room := { frames := 1, cells := 0, slots := 0, locals := 25 }
def LX5_movesDown_14   (x2 : Int64) (x4 : Int64)  (post : Int32 → Prop) : Nat → Int32 → Int32 → Int32 → Prop
  | 0, _, _, _ => False
  | n + 1, x6, x7, x8 => (((5 : Int32) ≤ x8 → post x7) ∧ (¬ (5 : Int32) ≤ x8 → ((x6 ≤ 0 → post x7) ∧ (¬ x6 ≤ 0 → ∀ x9_4 : Int32, x9_4 = ((6 : Int32) * x6) → ∀ x10_5 : Int64, x10_5 = ((x4 >>> (x9_4.toInt64 &&& 63)) <<< (x9_4.toInt64 &&& 63)) → ((x10_5 ≤ x2 → (PX5_wheelOf x10_5 x4 (fun (r_7 : Int32) => ∀ x7_8 : Int32, x7_8 = x7 + 1 → ∀ x8_9 : Int32, x8_9 = x8 + 1 → LX5_movesDown_14  x2 x4 post n r_7 x7_8 x8_9))) ∧ (¬ x10_5 ≤ x2 → post x7))))))
set_option maxHeartbeats 4000000 in
set_option maxRecDepth 100000 in
theorem kX5_movesDown_14 {p : Program} {e : Env} {s : State} {m : MethodId} {args : Array Value} {below : List Frame} {meth : Method} {c : Code} (l : Launch) (dC : Nat → ClassId) (dI : Nat → Nat → Nat) (nn : Nat) (ad : Nat → Nat) (ff : Nat → va_E) (tys : List (ClassId × FieldType)) (A : Nat → Prop)  (x2 : Int64) (x4 : Int64)  (post : Int32 → Prop) (C0 : xC p s m args meth c cX5_movesDown 12 (some .int) RX5 wsX5_movesDown (dC, dI) tys) : ∀ (n : Nat) (x6 : Int32) (x7 : Int32) (x8 : Int32) (H : Heap) (locs : List Loc) (ls : Array Slot), LX5_movesDown_14  x2 x4 post n x6 x7 x8 → va_P (dC, dI) vwCl (xw nn ad ff) H → va_S A s.heap H locs → lv_has ls 12 [(2, .long x2), (4, .long x4), (6, .int x6), (7, .int x7), (8, .int x8)] → W p l e rmX5_movesDown s m args below meth c H locs 0 0 (MQ below (va_Qi (fun r9 (u : Unit) => post r9 ) (fun u t => va_P (dC, dI) vwCl (xw nn ad ff) t.heap) A) args s 0 0 A) (F0 m 14 ls []) := by
  obtain ⟨hx, hb, -, hr, hlocks, hown, hts, hK⟩ := id C0
  intro n
  induction n with
  | zero =>
    intro x6 x7 x8 H locs ls h
    exact False.elim h
  | succ n ih =>
    intro x6 x7 x8 H locs ls h hP hS hl
    rw [LX5_movesDown_14] at h
    refine lv_iload hx hb dX5_movesDown_14 (lv_at hl 4 rfl) ?_
    refine lv_iconst (v := (5 : Int32)) hx hb dX5_movesDown_16 (by decide) ?_
    refine lv_icmp_ge (tgt := 70) hx hb dX5_movesDown_17 (by decide) (fun c_2 => ?_) (fun c_2 => ?_)
    · have h := h.1 c_2
      refine lv_iload hx hb dX5_movesDown_70 (lv_at hl 3 rfl) ?_
      exact W.iret (v := x7) hx hb hr (fun t ht hW => ⟨⟨x7, (), rfl, h, x_ht ht hP⟩, hS.F ht⟩) hS.2.2 dX5_movesDown_72
    · have h := h.2 c_2
      refine lv_iload hx hb dX5_movesDown_20 (lv_at hl 2 rfl) ?_
      refine lv_if_le (tgt := 70) hx hb dX5_movesDown_22 (by decide) (fun c_3 => ?_) (fun c_3 => ?_)
      · have h := h.1 c_3
        refine lv_iload hx hb dX5_movesDown_70 (lv_at hl 3 rfl) ?_
        exact W.iret (v := x7) hx hb hr (fun t ht hW => ⟨⟨x7, (), rfl, h, x_ht ht hP⟩, hS.F ht⟩) hS.2.2 dX5_movesDown_72
      · have h := h.2 c_3
        refine lv_bipush (v := (6 : Int32)) hx hb dX5_movesDown_25 (by decide) ?_
        refine lv_iload hx hb dX5_movesDown_27 (lv_at hl 2 rfl) ?_
        refine lv_imul hx hb dX5_movesDown_29 ?_
        refine lv_topi (fun x9_4 ex9_4 => ?_)
        have h := h x9_4 ex9_4
        refine lv_istore (lv' := [(9, .int x9_4), (2, .long x2), (4, .long x4), (6, .int x6), (7, .int x7), (8, .int x8)]) hx hb dX5_movesDown_30 hl (by decide) rfl (fun ls hl => ?_)
        refine lv_lload hx hb dX5_movesDown_32 (lv_at hl 2 rfl) ?_
        refine lv_iload hx hb dX5_movesDown_34 (lv_at hl 0 rfl) ?_
        refine lv_lshr hx hb dX5_movesDown_36 rfl ?_
        refine lv_iload hx hb dX5_movesDown_37 (lv_at hl 0 rfl) ?_
        refine lv_lshl hx hb dX5_movesDown_39 rfl ?_
        refine lv_topl (fun x10_5 ex10_5 => ?_)
        have h := h x10_5 ex10_5
        refine lv_lstore (lv' := [(10, .long x10_5), (9, .int x9_4), (2, .long x2), (4, .long x4), (6, .int x6), (7, .int x7), (8, .int x8)]) hx hb dX5_movesDown_40 hl (by decide) rfl (fun ls hl => ?_)
        refine lv_lload hx hb dX5_movesDown_42 (lv_at hl 0 rfl) ?_
        refine lv_lload_n hx hb dX5_movesDown_44 rfl (lv_at hl 2 rfl) ?_
        refine xr_if_lcmp_le (tgt := 52) hx hb dX5_movesDown_45 dX5_movesDown_46 (by decide) (fun c_6 => ?_) (fun c_6 => ?_)
        · have h := h.1 c_6
          refine lv_lload hx hb dX5_movesDown_52 (lv_at hl 0 rfl) ?_
          refine lv_lload hx hb dX5_movesDown_54 (lv_at hl 3 rfl) ?_
          refine va_calli (va_runS (As := [.long x10_5, .long x4]) (rest := []) ⟨hx, hb, C0.2.2.1, hown, hts⟩ (qX5_wheelOf l dC dI nn ad ff tys A x10_5 x4 _ h) (va_cwS 2 hts gX5_movesDown_X5_wheelOf rfl rfl rfl (by decide +kernel) ⟨Nat.le_of_ble_eq_true rfl, Nat.le_of_ble_eq_true rfl⟩) ⟨xr_blind, xr_pre hP hK⟩ rfl rfl hl.1 rfl (lv_room (Nat.le_of_ble_eq_true rfl)) dX5_movesDown_56 ⟨Nat.zero_le _, Nat.zero_le _⟩) hS (fun _ _ h => h) (fun _ h => h) (fun r_7 _ t9 H locs ht hvm h hB _ _ hS => ?_)
          refine W.cs (cells' := 0) (slots' := 0) rfl rfl ?_
          have hP := x_th ht hB
          have hP : va_P (dC, dI) vwCl (xw nn ad ff) H := hP
          refine lv_istore (lv' := [(6, .int r_7), (10, .long x10_5), (9, .int x9_4), (2, .long x2), (4, .long x4), (7, .int x7), (8, .int x8)]) hx hb dX5_movesDown_59 hl (by decide) rfl (fun ls hl => ?_)
          obtain ⟨x7_8, ex7_8⟩ : ∃ z : Int32, z = x7 + 1 := ⟨_, rfl⟩
          have h := h x7_8 ex7_8
          refine lv_iinc (v := x7_8) (lv' := [(7, .int x7_8), (6, .int r_7), (10, .long x10_5), (9, .int x9_4), (2, .long x2), (4, .long x4), (8, .int x8)]) hx hb dX5_movesDown_61 hl (k := 5) rfl (by rw [ex7_8]; rfl) (by decide) rfl (fun ls hl => ?_)
          obtain ⟨x8_9, ex8_9⟩ : ∃ z : Int32, z = x8 + 1 := ⟨_, rfl⟩
          have h := h x8_9 ex8_9
          refine lv_iinc (v := x8_9) (lv' := [(8, .int x8_9), (7, .int x7_8), (6, .int r_7), (10, .long x10_5), (9, .int x9_4), (2, .long x2), (4, .long x4)]) hx hb dX5_movesDown_64 hl (k := 6) rfl (by rw [ex8_9]; rfl) (by decide) rfl (fun ls hl => ?_)
          refine lv_goto (tgt := 14) hx hb dX5_movesDown_67 (by decide) ?_
          exact ih r_7 x7_8 x8_9 _ _ _ h hP hS (lv_sub hl [5, 6, 2, 1, 0] rfl)
        · have h := h.2 c_6
          refine lv_goto (tgt := 70) hx hb dX5_movesDown_49 (by decide) ?_
          refine lv_iload hx hb dX5_movesDown_70 (lv_at hl 5 rfl) ?_
          exact W.iret (v := x7) hx hb hr (fun t ht hW => ⟨⟨x7, (), rfl, h, x_ht ht hP⟩, hS.F ht⟩) hS.2.2 dX5_movesDown_72
def PX5_movesDown   (x0 : Int64) (x2 : Int64) (x4 : Int64) (post : Int32 → Prop) : Prop :=
  (PX5_wheelOf x0 x4 (fun (r_1 : Int32) => (∃ n_10 : Nat, LX5_movesDown_14  x2 x4  post n_10 r_1 (0 : Int32) (0 : Int32))))
set_option maxHeartbeats 4000000 in
set_option maxRecDepth 100000 in
theorem qX5_movesDown (l : Launch) (dC : Nat → ClassId) (dI : Nat → Nat → Nat) (nn : Nat) (ad : Nat → Nat) (ff : Nat → va_E) (tys : List (ClassId × FieldType)) (A : Nat → Prop)  (x0 : Int64) (x2 : Int64) (x4 : Int64) (post : Int32 → Prop) (h : PX5_movesDown x0 x2 x4 post) : Met l yX5_movesDown wsX5_movesDown rmX5_movesDown (va_Pc [.long x0, .long x2, .long x4] (fun U => va_P (dC, dI) vwCl (xw nn ad ff) U.heap ∧ va_K (dC, dI) vwCl tys U)) (va_Qi (fun r9 (u : Unit) => post r9 ) (fun u t => va_P (dC, dI) vwCl (xw nn ad ff) t.heap) A) 0 0 A := by
  refine Met.ofW (cc := cX5_movesDown) (maxL := 12) (ret := (some .int)) (by decide) rfl ?_
  intro p e s m args below meth c s₁ B hml hv
  obtain ⟨eargs, hP, hK⟩ := hv
  have C0 : xC p s m args meth c cX5_movesDown 12 (some .int) RX5 wsX5_movesDown (dC, dI) tys := ⟨B.exec, B.bytes, hml, B.returns, B.notSynchronized, findClass_of_methodNamed B.named, atoms_spec (ws := wsX5_movesDown) B.pre, hK⟩
  obtain ⟨hx, hb, -, hr, hlocks, hown, hts, -⟩ := id C0
  have hS : va_S A s.heap s.heap [] := va_S.rf
  have hl := lv_entry ([.long x0, .long x2, .long x4]) (n := 12) (Nat.le_of_ble_eq_true rfl)
  have ef : entryFrame m args 12 = entryFrame m ([.long x0, .long x2, .long x4] : List Value).toArray 12 := by rw [eargs]
  rw [ef, lg_entry_eq]
  generalize (lg_sl ([.long x0, .long x2, .long x4]) ++ List.replicate (12 - (lg_sl ([.long x0, .long x2, .long x4])).length) Slot.unset).toArray = ls at hl ⊢
  have hl : lv_has ls 12 [(0, .long x0), (2, .long x2), (4, .long x4)] := hl
  have hP : va_P (dC, dI) vwCl (xw nn ad ff) s.heap := hP
  unfold PX5_movesDown at h
  refine lv_lload_n hx hb dX5_movesDown_0 rfl (lv_at hl 0 rfl) ?_
  refine lv_lload hx hb dX5_movesDown_1 (lv_at hl 2 rfl) ?_
  refine va_calli (va_runS (As := [.long x0, .long x4]) (rest := []) ⟨hx, hb, C0.2.2.1, hown, hts⟩ (qX5_wheelOf l dC dI nn ad ff tys A x0 x4 _ h) (va_cwS 2 hts gX5_movesDown_X5_wheelOf rfl rfl rfl (by decide +kernel) ⟨Nat.le_of_ble_eq_true rfl, Nat.le_of_ble_eq_true rfl⟩) ⟨xr_blind, xr_pre hP hK⟩ rfl rfl hl.1 rfl (lv_room (Nat.le_of_ble_eq_true rfl)) dX5_movesDown_3 ⟨Nat.zero_le _, Nat.zero_le _⟩) hS (fun _ _ h => h) (fun _ h => h) (fun r_1 _ t9 H locs ht hvm h hB _ _ hS => ?_)
  refine W.cs (cells' := 0) (slots' := 0) rfl rfl ?_
  have hP := x_th ht hB
  have hP : va_P (dC, dI) vwCl (xw nn ad ff) H := hP
  refine lv_istore (lv' := [(6, .int r_1), (0, .long x0), (2, .long x2), (4, .long x4)]) hx hb dX5_movesDown_6 hl (by decide) rfl (fun ls hl => ?_)
  refine lv_iconst (v := (0 : Int32)) hx hb dX5_movesDown_8 (by decide) ?_
  refine lv_istore (lv' := [(7, .int (0 : Int32)), (6, .int r_1), (0, .long x0), (2, .long x2), (4, .long x4)]) hx hb dX5_movesDown_9 hl (by decide) rfl (fun ls hl => ?_)
  refine lv_iconst (v := (0 : Int32)) hx hb dX5_movesDown_11 (by decide) ?_
  refine lv_istore (lv' := [(8, .int (0 : Int32)), (7, .int (0 : Int32)), (6, .int r_1), (0, .long x0), (2, .long x2), (4, .long x4)]) hx hb dX5_movesDown_12 hl (by decide) rfl (fun ls hl => ?_)
  obtain ⟨n_10, h⟩ := h
  exact kX5_movesDown_14 l dC dI nn ad ff tys A    x2 x4  post C0  n_10 r_1 (0 : Int32) (0 : Int32) _ _ _ h hP hS (lv_sub hl [4, 5, 2, 1, 0] rfl)
abbrev rmX5_slotOf : Room := { frames := 0, cells := 0, slots := 0, locals := 0 }
theorem wX5_slotOf_k9 : Cond.constantLong RX5 9 (63) ∈ wsX5_slotOf := by decide +kernel
def PX5_slotOf   (x0 : Int32) (x1 : Int64) (post : Int32 → Prop) : Prop :=
  ((x0 < (5 : Int32) → post (((x1 >>> (((6 : Int32) * x0).toInt64 &&& 63)) &&& (63 : Int64)).toInt32)) ∧ (¬ x0 < (5 : Int32) → post (0 : Int32)))
set_option maxHeartbeats 4000000 in
set_option maxRecDepth 100000 in
theorem qX5_slotOf (l : Launch) (dC : Nat → ClassId) (dI : Nat → Nat → Nat) (nn : Nat) (ad : Nat → Nat) (ff : Nat → va_E) (tys : List (ClassId × FieldType)) (A : Nat → Prop)  (x0 : Int32) (x1 : Int64) (post : Int32 → Prop) (h : PX5_slotOf x0 x1 post) : Met l yX5_slotOf wsX5_slotOf rmX5_slotOf (va_Pc [.int x0, .long x1] (fun U => va_P (dC, dI) vwCl (xw nn ad ff) U.heap ∧ va_K (dC, dI) vwCl tys U)) (va_Qi (fun r9 (u : Unit) => post r9 ) (fun u t => va_P (dC, dI) vwCl (xw nn ad ff) t.heap) A) 0 0 A := by
  refine Met.ofW (cc := cX5_slotOf) (maxL := 3) (ret := (some .int)) (by decide) rfl ?_
  intro p e s m args below meth c s₁ B hml hv
  obtain ⟨eargs, hP, hK⟩ := hv
  have C0 : xC p s m args meth c cX5_slotOf 3 (some .int) RX5 wsX5_slotOf (dC, dI) tys := ⟨B.exec, B.bytes, hml, B.returns, B.notSynchronized, findClass_of_methodNamed B.named, atoms_spec (ws := wsX5_slotOf) B.pre, hK⟩
  obtain ⟨hx, hb, -, hr, hlocks, hown, hts, -⟩ := id C0
  have hS : va_S A s.heap s.heap [] := va_S.rf
  have hl := lv_entry ([.int x0, .long x1]) (n := 3) (Nat.le_of_ble_eq_true rfl)
  have ef : entryFrame m args 3 = entryFrame m ([.int x0, .long x1] : List Value).toArray 3 := by rw [eargs]
  rw [ef, lg_entry_eq]
  generalize (lg_sl ([.int x0, .long x1]) ++ List.replicate (3 - (lg_sl ([.int x0, .long x1])).length) Slot.unset).toArray = ls at hl ⊢
  have hl : lv_has ls 3 [(0, .int x0), (1, .long x1)] := hl
  have hP : va_P (dC, dI) vwCl (xw nn ad ff) s.heap := hP
  unfold PX5_slotOf at h
  refine lv_iload_n hx hb dX5_slotOf_0 rfl (lv_at hl 0 rfl) ?_
  refine lv_iconst (v := (5 : Int32)) hx hb dX5_slotOf_1 (by decide) ?_
  refine lv_icmp_lt (tgt := 9) hx hb dX5_slotOf_2 (by decide) (fun c_1 => ?_) (fun c_1 => ?_)
  · have h := h.1 c_1
    refine lv_lload_n hx hb dX5_slotOf_9 rfl (lv_at hl 1 rfl) ?_
    refine lv_bipush (v := (6 : Int32)) hx hb dX5_slotOf_10 (by decide) ?_
    refine lv_iload_n hx hb dX5_slotOf_12 rfl (lv_at hl 0 rfl) ?_
    refine lv_imul hx hb dX5_slotOf_13 ?_
    refine lv_lshr hx hb dX5_slotOf_14 rfl ?_
    refine lv_ldc2 (v := (63 : Int64)) hx hb hown (hts _ wX5_slotOf_k9) dX5_slotOf_15 ?_
    refine lv_land hx hb dX5_slotOf_18 ?_
    refine lv_l2i hx hb dX5_slotOf_19 rfl ?_
    exact W.iret (v := (((x1 >>> (((6 : Int32) * x0).toInt64 &&& 63)) &&& (63 : Int64)).toInt32)) hx hb hr (fun t ht hW => ⟨⟨(((x1 >>> (((6 : Int32) * x0).toInt64 &&& 63)) &&& (63 : Int64)).toInt32), (), rfl, h, x_ht ht hP⟩, hS.F ht⟩) hS.2.2 dX5_slotOf_20
  · have h := h.2 c_1
    refine lv_iconst (v := (0 : Int32)) hx hb dX5_slotOf_5 (by decide) ?_
    refine lv_goto (tgt := 20) hx hb dX5_slotOf_6 (by decide) ?_
    exact W.iret (v := (0 : Int32)) hx hb hr (fun t ht hW => ⟨⟨(0 : Int32), (), rfl, h, x_ht ht hP⟩, hS.F ht⟩) hS.2.2 dX5_slotOf_20
abbrev rmX5_isSlot : Room := { frames := 0, cells := 0, slots := 0, locals := 0 }
def PX5_isSlot   (x0 : Int32) (x1 : Int32) (post : Int32 → Prop) : Prop :=
  ((x0 = (5 : Int32) → ((x1 = 0 → post (1 : Int32)) ∧ (¬ x1 = 0 → post (0 : Int32)))) ∧ (¬ x0 = (5 : Int32) → ((x0 < 0 → post (0 : Int32)) ∧ (¬ x0 < 0 → (((5 : Int32) ≤ x0 → post (0 : Int32)) ∧ (¬ (5 : Int32) ≤ x0 → ((x1 < 0 → post (0 : Int32)) ∧ (¬ x1 < 0 → (((64 : Int32) ≤ x1 → post (0 : Int32)) ∧ (¬ (64 : Int32) ≤ x1 → post (1 : Int32)))))))))))
set_option maxHeartbeats 4000000 in
set_option maxRecDepth 100000 in
theorem qX5_isSlot (l : Launch) (dC : Nat → ClassId) (dI : Nat → Nat → Nat) (nn : Nat) (ad : Nat → Nat) (ff : Nat → va_E) (tys : List (ClassId × FieldType)) (A : Nat → Prop)  (x0 : Int32) (x1 : Int32) (post : Int32 → Prop) (h : PX5_isSlot x0 x1 post) : Met l yX5_isSlot wsX5_isSlot rmX5_isSlot (va_Pc [.int x0, .int x1] (fun U => va_P (dC, dI) vwCl (xw nn ad ff) U.heap ∧ va_K (dC, dI) vwCl tys U)) (va_Qi (fun r9 (u : Unit) => post r9 ) (fun u t => va_P (dC, dI) vwCl (xw nn ad ff) t.heap) A) 0 0 A := by
  refine Met.ofW (cc := cX5_isSlot) (maxL := 2) (ret := (some .boolean)) (by decide) rfl ?_
  intro p e s m args below meth c s₁ B hml hv
  obtain ⟨eargs, hP, hK⟩ := hv
  have C0 : xC p s m args meth c cX5_isSlot 2 (some .boolean) RX5 wsX5_isSlot (dC, dI) tys := ⟨B.exec, B.bytes, hml, B.returns, B.notSynchronized, findClass_of_methodNamed B.named, atoms_spec (ws := wsX5_isSlot) B.pre, hK⟩
  obtain ⟨hx, hb, -, hr, hlocks, hown, hts, -⟩ := id C0
  have hS : va_S A s.heap s.heap [] := va_S.rf
  have hl := lv_entry ([.int x0, .int x1]) (n := 2) (Nat.le_of_ble_eq_true rfl)
  have ef : entryFrame m args 2 = entryFrame m ([.int x0, .int x1] : List Value).toArray 2 := by rw [eargs]
  rw [ef, lg_entry_eq]
  generalize (lg_sl ([.int x0, .int x1]) ++ List.replicate (2 - (lg_sl ([.int x0, .int x1])).length) Slot.unset).toArray = ls at hl ⊢
  have hl : lv_has ls 2 [(0, .int x0), (1, .int x1)] := hl
  have hP : va_P (dC, dI) vwCl (xw nn ad ff) s.heap := hP
  unfold PX5_isSlot at h
  refine lv_iload_n hx hb dX5_isSlot_0 rfl (lv_at hl 0 rfl) ?_
  refine lv_iconst (v := (5 : Int32)) hx hb dX5_isSlot_1 (by decide) ?_
  refine lv_icmp_ne (tgt := 15) hx hb dX5_isSlot_2 (by decide) (fun c_1 => ?_) (fun c_1 => ?_)
  · have h := h.2 c_1
    refine lv_iload_n hx hb dX5_isSlot_15 rfl (lv_at hl 0 rfl) ?_
    refine lv_if_lt (tgt := 38) hx hb dX5_isSlot_16 (by decide) (fun c_2 => ?_) (fun c_2 => ?_)
    · have h := h.1 c_2
      refine lv_iconst (v := (0 : Int32)) hx hb dX5_isSlot_38 (by decide) ?_
      exact W.zret (v := (0 : Int32)) (ty := .boolean) hx hb hr (by decide) (fun t ht hW => ⟨⟨(0 : Int32), (), rfl, h, x_ht ht hP⟩, hS.F ht⟩) hS.2.2 dX5_isSlot_39
    · have h := h.2 c_2
      refine lv_iload_n hx hb dX5_isSlot_19 rfl (lv_at hl 0 rfl) ?_
      refine lv_iconst (v := (5 : Int32)) hx hb dX5_isSlot_20 (by decide) ?_
      refine lv_icmp_ge (tgt := 38) hx hb dX5_isSlot_21 (by decide) (fun c_3 => ?_) (fun c_3 => ?_)
      · have h := h.1 c_3
        refine lv_iconst (v := (0 : Int32)) hx hb dX5_isSlot_38 (by decide) ?_
        exact W.zret (v := (0 : Int32)) (ty := .boolean) hx hb hr (by decide) (fun t ht hW => ⟨⟨(0 : Int32), (), rfl, h, x_ht ht hP⟩, hS.F ht⟩) hS.2.2 dX5_isSlot_39
      · have h := h.2 c_3
        refine lv_iload_n hx hb dX5_isSlot_24 rfl (lv_at hl 1 rfl) ?_
        refine lv_if_lt (tgt := 38) hx hb dX5_isSlot_25 (by decide) (fun c_4 => ?_) (fun c_4 => ?_)
        · have h := h.1 c_4
          refine lv_iconst (v := (0 : Int32)) hx hb dX5_isSlot_38 (by decide) ?_
          exact W.zret (v := (0 : Int32)) (ty := .boolean) hx hb hr (by decide) (fun t ht hW => ⟨⟨(0 : Int32), (), rfl, h, x_ht ht hP⟩, hS.F ht⟩) hS.2.2 dX5_isSlot_39
        · have h := h.2 c_4
          refine lv_iload_n hx hb dX5_isSlot_28 rfl (lv_at hl 1 rfl) ?_
          refine lv_bipush (v := (64 : Int32)) hx hb dX5_isSlot_29 (by decide) ?_
          refine lv_icmp_ge (tgt := 38) hx hb dX5_isSlot_31 (by decide) (fun c_5 => ?_) (fun c_5 => ?_)
          · have h := h.1 c_5
            refine lv_iconst (v := (0 : Int32)) hx hb dX5_isSlot_38 (by decide) ?_
            exact W.zret (v := (0 : Int32)) (ty := .boolean) hx hb hr (by decide) (fun t ht hW => ⟨⟨(0 : Int32), (), rfl, h, x_ht ht hP⟩, hS.F ht⟩) hS.2.2 dX5_isSlot_39
          · have h := h.2 c_5
            refine lv_iconst (v := (1 : Int32)) hx hb dX5_isSlot_34 (by decide) ?_
            refine lv_goto (tgt := 39) hx hb dX5_isSlot_35 (by decide) ?_
            exact W.zret (v := (1 : Int32)) (ty := .boolean) hx hb hr (by decide) (fun t ht hW => ⟨⟨(1 : Int32), (), rfl, h, x_ht ht hP⟩, hS.F ht⟩) hS.2.2 dX5_isSlot_39
  · have h := h.1 c_1
    refine lv_iload_n hx hb dX5_isSlot_5 rfl (lv_at hl 1 rfl) ?_
    refine lv_if_ne (tgt := 13) hx hb dX5_isSlot_6 (by decide) (fun c_6 => ?_) (fun c_6 => ?_)
    · have h := h.2 c_6
      refine lv_iconst (v := (0 : Int32)) hx hb dX5_isSlot_13 (by decide) ?_
      exact W.zret (v := (0 : Int32)) (ty := .boolean) hx hb hr (by decide) (fun t ht hW => ⟨⟨(0 : Int32), (), rfl, h, x_ht ht hP⟩, hS.F ht⟩) hS.2.2 dX5_isSlot_14
    · have h := h.1 c_6
      refine lv_iconst (v := (1 : Int32)) hx hb dX5_isSlot_9 (by decide) ?_
      refine lv_goto (tgt := 14) hx hb dX5_isSlot_10 (by decide) ?_
      exact W.zret (v := (1 : Int32)) (ty := .boolean) hx hb hr (by decide) (fun t ht hW => ⟨⟨(1 : Int32), (), rfl, h, x_ht ht hP⟩, hS.F ht⟩) hS.2.2 dX5_isSlot_14
end
section
theorem dX4_init_0 : decode cX4_init 0 = .ok (.aload_n 0, 1) := by decide +kernel
theorem dX4_init_1 : decode cX4_init 1 = .ok (.invokespecial 3, 3) := by decide +kernel
theorem dX4_init_4 : decode cX4_init 4 = .ok (.aload_n 0, 1) := by decide +kernel
theorem dX4_init_5 : decode cX4_init 5 = .ok (.bipush 12, 2) := by decide +kernel
theorem dX4_init_7 : decode cX4_init 7 = .ok (.sipush 200, 3) := by decide +kernel
theorem dX4_init_10 : decode cX4_init 10 = .ok (.multianewarray 9 2, 4) := by decide +kernel
theorem dX4_init_14 : decode cX4_init 14 = .ok (.putfield 11, 3) := by decide +kernel
theorem dX4_init_17 : decode cX4_init 17 = .ok (.aload_n 0, 1) := by decide +kernel
theorem dX4_init_18 : decode cX4_init 18 = .ok (.iconst 3, 1) := by decide +kernel
theorem dX4_init_19 : decode cX4_init 19 = .ok (.sipush 300, 3) := by decide +kernel
theorem dX4_init_22 : decode cX4_init 22 = .ok (.multianewarray 9 2, 4) := by decide +kernel
theorem dX4_init_26 : decode cX4_init 26 = .ok (.putfield 16, 3) := by decide +kernel
theorem dX4_init_29 : decode cX4_init 29 = .ok (.return_, 1) := by decide +kernel
theorem dX4_copyOf_0 : decode cX4_copyOf 0 = .ok (.aload_n 0, 1) := by decide +kernel
theorem dX4_copyOf_1 : decode cX4_copyOf 1 = .ok (.aload_n 1, 1) := by decide +kernel
theorem dX4_copyOf_2 : decode cX4_copyOf 2 = .ok (.getfield 19, 3) := by decide +kernel
theorem dX4_copyOf_5 : decode cX4_copyOf 5 = .ok (.putfield 19, 3) := by decide +kernel
theorem dX4_copyOf_8 : decode cX4_copyOf 8 = .ok (.aload_n 0, 1) := by decide +kernel
theorem dX4_copyOf_9 : decode cX4_copyOf 9 = .ok (.aload_n 1, 1) := by decide +kernel
theorem dX4_copyOf_10 : decode cX4_copyOf 10 = .ok (.getfield 23, 3) := by decide +kernel
theorem dX4_copyOf_13 : decode cX4_copyOf 13 = .ok (.putfield 23, 3) := by decide +kernel
theorem dX4_copyOf_16 : decode cX4_copyOf 16 = .ok (.aload_n 0, 1) := by decide +kernel
theorem dX4_copyOf_17 : decode cX4_copyOf 17 = .ok (.aload_n 1, 1) := by decide +kernel
theorem dX4_copyOf_18 : decode cX4_copyOf 18 = .ok (.getfield 26, 3) := by decide +kernel
theorem dX4_copyOf_21 : decode cX4_copyOf 21 = .ok (.putfield 26, 3) := by decide +kernel
theorem dX4_copyOf_24 : decode cX4_copyOf 24 = .ok (.aload_n 0, 1) := by decide +kernel
theorem dX4_copyOf_25 : decode cX4_copyOf 25 = .ok (.aload_n 1, 1) := by decide +kernel
theorem dX4_copyOf_26 : decode cX4_copyOf 26 = .ok (.getfield 29, 3) := by decide +kernel
theorem dX4_copyOf_29 : decode cX4_copyOf 29 = .ok (.putfield 29, 3) := by decide +kernel
theorem dX4_copyOf_32 : decode cX4_copyOf 32 = .ok (.aload_n 0, 1) := by decide +kernel
theorem dX4_copyOf_33 : decode cX4_copyOf 33 = .ok (.aload_n 1, 1) := by decide +kernel
theorem dX4_copyOf_34 : decode cX4_copyOf 34 = .ok (.getfield 32, 3) := by decide +kernel
theorem dX4_copyOf_37 : decode cX4_copyOf 37 = .ok (.putfield 32, 3) := by decide +kernel
theorem dX4_copyOf_40 : decode cX4_copyOf 40 = .ok (.aload_n 0, 1) := by decide +kernel
theorem dX4_copyOf_41 : decode cX4_copyOf 41 = .ok (.aload_n 1, 1) := by decide +kernel
theorem dX4_copyOf_42 : decode cX4_copyOf 42 = .ok (.getfield 36, 3) := by decide +kernel
theorem dX4_copyOf_45 : decode cX4_copyOf 45 = .ok (.putfield 36, 3) := by decide +kernel
theorem dX4_copyOf_48 : decode cX4_copyOf 48 = .ok (.iconst 0, 1) := by decide +kernel
theorem dX4_copyOf_49 : decode cX4_copyOf 49 = .ok (.istore_n 2, 1) := by decide +kernel
theorem dX4_copyOf_50 : decode cX4_copyOf 50 = .ok (.iload_n 2, 1) := by decide +kernel
theorem dX4_copyOf_51 : decode cX4_copyOf 51 = .ok (.bipush 12, 2) := by decide +kernel
theorem dX4_copyOf_53 : decode cX4_copyOf 53 = .ok (.if_icmp .ge 30, 3) := by decide +kernel
theorem dX4_copyOf_56 : decode cX4_copyOf 56 = .ok (.aload_n 1, 1) := by decide +kernel
theorem dX4_copyOf_57 : decode cX4_copyOf 57 = .ok (.getfield 11, 3) := by decide +kernel
theorem dX4_copyOf_60 : decode cX4_copyOf 60 = .ok (.iload_n 2, 1) := by decide +kernel
theorem dX4_copyOf_61 : decode cX4_copyOf 61 = .ok (.aaload, 1) := by decide +kernel
theorem dX4_copyOf_62 : decode cX4_copyOf 62 = .ok (.iconst 0, 1) := by decide +kernel
theorem dX4_copyOf_63 : decode cX4_copyOf 63 = .ok (.aload_n 0, 1) := by decide +kernel
theorem dX4_copyOf_64 : decode cX4_copyOf 64 = .ok (.getfield 11, 3) := by decide +kernel
theorem dX4_copyOf_67 : decode cX4_copyOf 67 = .ok (.iload_n 2, 1) := by decide +kernel
theorem dX4_copyOf_68 : decode cX4_copyOf 68 = .ok (.aaload, 1) := by decide +kernel
theorem dX4_copyOf_69 : decode cX4_copyOf 69 = .ok (.iconst 0, 1) := by decide +kernel
theorem dX4_copyOf_70 : decode cX4_copyOf 70 = .ok (.aload_n 0, 1) := by decide +kernel
theorem dX4_copyOf_71 : decode cX4_copyOf 71 = .ok (.getfield 32, 3) := by decide +kernel
theorem dX4_copyOf_74 : decode cX4_copyOf 74 = .ok (.invokestatic 39, 3) := by decide +kernel
theorem dX4_copyOf_77 : decode cX4_copyOf 77 = .ok (.iinc 2 1, 3) := by decide +kernel
theorem dX4_copyOf_80 : decode cX4_copyOf 80 = .ok (.goto (-30), 3) := by decide +kernel
theorem dX4_copyOf_83 : decode cX4_copyOf 83 = .ok (.iconst 0, 1) := by decide +kernel
theorem dX4_copyOf_84 : decode cX4_copyOf 84 = .ok (.istore_n 2, 1) := by decide +kernel
theorem dX4_copyOf_85 : decode cX4_copyOf 85 = .ok (.iload_n 2, 1) := by decide +kernel
theorem dX4_copyOf_86 : decode cX4_copyOf 86 = .ok (.iconst 3, 1) := by decide +kernel
theorem dX4_copyOf_87 : decode cX4_copyOf 87 = .ok (.if_icmp .ge 30, 3) := by decide +kernel
theorem dX4_copyOf_90 : decode cX4_copyOf 90 = .ok (.aload_n 1, 1) := by decide +kernel
theorem dX4_copyOf_91 : decode cX4_copyOf 91 = .ok (.getfield 16, 3) := by decide +kernel
theorem dX4_copyOf_94 : decode cX4_copyOf 94 = .ok (.iload_n 2, 1) := by decide +kernel
theorem dX4_copyOf_95 : decode cX4_copyOf 95 = .ok (.aaload, 1) := by decide +kernel
theorem dX4_copyOf_96 : decode cX4_copyOf 96 = .ok (.iconst 0, 1) := by decide +kernel
theorem dX4_copyOf_97 : decode cX4_copyOf 97 = .ok (.aload_n 0, 1) := by decide +kernel
theorem dX4_copyOf_98 : decode cX4_copyOf 98 = .ok (.getfield 16, 3) := by decide +kernel
theorem dX4_copyOf_101 : decode cX4_copyOf 101 = .ok (.iload_n 2, 1) := by decide +kernel
theorem dX4_copyOf_102 : decode cX4_copyOf 102 = .ok (.aaload, 1) := by decide +kernel
theorem dX4_copyOf_103 : decode cX4_copyOf 103 = .ok (.iconst 0, 1) := by decide +kernel
theorem dX4_copyOf_104 : decode cX4_copyOf 104 = .ok (.aload_n 0, 1) := by decide +kernel
theorem dX4_copyOf_105 : decode cX4_copyOf 105 = .ok (.getfield 36, 3) := by decide +kernel
theorem dX4_copyOf_108 : decode cX4_copyOf 108 = .ok (.invokestatic 39, 3) := by decide +kernel
theorem dX4_copyOf_111 : decode cX4_copyOf 111 = .ok (.iinc 2 1, 3) := by decide +kernel
theorem dX4_copyOf_114 : decode cX4_copyOf 114 = .ok (.goto (-29), 3) := by decide +kernel
theorem dX4_copyOf_117 : decode cX4_copyOf 117 = .ok (.return_, 1) := by decide +kernel
theorem dX4_isDue_0 : decode cX4_isDue 0 = .ok (.iload_n 1, 1) := by decide +kernel
theorem dX4_isDue_1 : decode cX4_isDue 1 = .ok (.ifCond .lt 30, 3) := by decide +kernel
theorem dX4_isDue_4 : decode cX4_isDue 4 = .ok (.iload_n 1, 1) := by decide +kernel
theorem dX4_isDue_5 : decode cX4_isDue 5 = .ok (.aload_n 0, 1) := by decide +kernel
theorem dX4_isDue_6 : decode cX4_isDue 6 = .ok (.getfield 32, 3) := by decide +kernel
theorem dX4_isDue_9 : decode cX4_isDue 9 = .ok (.if_icmp .ge 22, 3) := by decide +kernel
theorem dX4_isDue_12 : decode cX4_isDue 12 = .ok (.aload_n 0, 1) := by decide +kernel
theorem dX4_isDue_13 : decode cX4_isDue 13 = .ok (.getfield 11, 3) := by decide +kernel
theorem dX4_isDue_16 : decode cX4_isDue 16 = .ok (.iconst 0, 1) := by decide +kernel
theorem dX4_isDue_17 : decode cX4_isDue 17 = .ok (.aaload, 1) := by decide +kernel
theorem dX4_isDue_18 : decode cX4_isDue 18 = .ok (.iload_n 1, 1) := by decide +kernel
theorem dX4_isDue_19 : decode cX4_isDue 19 = .ok (.laload, 1) := by decide +kernel
theorem dX4_isDue_20 : decode cX4_isDue 20 = .ok (.ldc2_w 45, 3) := by decide +kernel
theorem dX4_isDue_23 : decode cX4_isDue 23 = .ok (.lcmp, 1) := by decide +kernel
theorem dX4_isDue_24 : decode cX4_isDue 24 = .ok (.ifCond .eq 7, 3) := by decide +kernel
theorem dX4_isDue_27 : decode cX4_isDue 27 = .ok (.iconst 1, 1) := by decide +kernel
theorem dX4_isDue_28 : decode cX4_isDue 28 = .ok (.goto 4, 3) := by decide +kernel
theorem dX4_isDue_31 : decode cX4_isDue 31 = .ok (.iconst 0, 1) := by decide +kernel
theorem dX4_isDue_32 : decode cX4_isDue 32 = .ok (.ireturn, 1) := by decide +kernel
theorem dX4_leastFree_0 : decode cX4_leastFree 0 = .ok (.iconst 0, 1) := by decide +kernel
theorem dX4_leastFree_1 : decode cX4_leastFree 1 = .ok (.istore_n 1, 1) := by decide +kernel
theorem dX4_leastFree_2 : decode cX4_leastFree 2 = .ok (.iload_n 1, 1) := by decide +kernel
theorem dX4_leastFree_3 : decode cX4_leastFree 3 = .ok (.aload_n 0, 1) := by decide +kernel
theorem dX4_leastFree_4 : decode cX4_leastFree 4 = .ok (.getfield 32, 3) := by decide +kernel
theorem dX4_leastFree_7 : decode cX4_leastFree 7 = .ok (.if_icmp .ge 26, 3) := by decide +kernel
theorem dX4_leastFree_10 : decode cX4_leastFree 10 = .ok (.aload_n 0, 1) := by decide +kernel
theorem dX4_leastFree_11 : decode cX4_leastFree 11 = .ok (.getfield 11, 3) := by decide +kernel
theorem dX4_leastFree_14 : decode cX4_leastFree 14 = .ok (.iconst 0, 1) := by decide +kernel
theorem dX4_leastFree_15 : decode cX4_leastFree 15 = .ok (.aaload, 1) := by decide +kernel
theorem dX4_leastFree_16 : decode cX4_leastFree 16 = .ok (.iload_n 1, 1) := by decide +kernel
theorem dX4_leastFree_17 : decode cX4_leastFree 17 = .ok (.laload, 1) := by decide +kernel
theorem dX4_leastFree_18 : decode cX4_leastFree 18 = .ok (.ldc2_w 45, 3) := by decide +kernel
theorem dX4_leastFree_21 : decode cX4_leastFree 21 = .ok (.lcmp, 1) := by decide +kernel
theorem dX4_leastFree_22 : decode cX4_leastFree 22 = .ok (.ifCond .ne 5, 3) := by decide +kernel
theorem dX4_leastFree_25 : decode cX4_leastFree 25 = .ok (.iload_n 1, 1) := by decide +kernel
theorem dX4_leastFree_26 : decode cX4_leastFree 26 = .ok (.ireturn, 1) := by decide +kernel
theorem dX4_leastFree_27 : decode cX4_leastFree 27 = .ok (.iinc 1 1, 3) := by decide +kernel
theorem dX4_leastFree_30 : decode cX4_leastFree 30 = .ok (.goto (-28), 3) := by decide +kernel
theorem dX4_leastFree_33 : decode cX4_leastFree 33 = .ok (.aload_n 0, 1) := by decide +kernel
theorem dX4_leastFree_34 : decode cX4_leastFree 34 = .ok (.getfield 32, 3) := by decide +kernel
theorem dX4_leastFree_37 : decode cX4_leastFree 37 = .ok (.ireturn, 1) := by decide +kernel
set_option maxRecDepth 20000 in
theorem ggX4_isFull_X4_leastFree : GoodIn wsX4_isFull wsX4_leastFree := goodIn_r _ [5, 6, 7, 8, 9, 10, 11, 12, 13, 14, 15, 16] (by decide +kernel) (by decide +kernel)
set_option maxRecDepth 20000 in
theorem gX4_isFull_X4_leastFree : GoodIn wsX4_isFull (wsV RX4 47 RX4 yX4_leastFree wsX4_leastFree) := goodIn_app (goodIn_of _ (by decide +kernel)) ggX4_isFull_X4_leastFree
theorem dX4_isFull_0 : decode cX4_isFull 0 = .ok (.aload_n 0, 1) := by decide +kernel
theorem dX4_isFull_1 : decode cX4_isFull 1 = .ok (.invokevirtual 47, 3) := by decide +kernel
theorem dX4_isFull_4 : decode cX4_isFull 4 = .ok (.sipush 200, 3) := by decide +kernel
theorem dX4_isFull_7 : decode cX4_isFull 7 = .ok (.if_icmp .lt 7, 3) := by decide +kernel
theorem dX4_isFull_10 : decode cX4_isFull 10 = .ok (.iconst 1, 1) := by decide +kernel
theorem dX4_isFull_11 : decode cX4_isFull 11 = .ok (.goto 4, 3) := by decide +kernel
theorem dX4_isFull_14 : decode cX4_isFull 14 = .ok (.iconst 0, 1) := by decide +kernel
theorem dX4_isFull_15 : decode cX4_isFull 15 = .ok (.ireturn, 1) := by decide +kernel
set_option maxRecDepth 20000 in
theorem ggX4_open_X4_leastFree : GoodIn wsX4_open wsX4_leastFree := goodIn_r _ [7, 1, 2, 8, 18, 19, 20, 21, 22, 23, 24, 25] (by decide +kernel) (by decide +kernel)
set_option maxRecDepth 20000 in
theorem gX4_open_X4_leastFree : GoodIn wsX4_open (wsV RX4 47 RX4 yX4_leastFree wsX4_leastFree) := goodIn_app (goodIn_of _ (by decide +kernel)) ggX4_open_X4_leastFree
set_option maxRecDepth 20000 in
theorem ggX4_open_X4_clear : GoodIn wsX4_open wsX4_clear := goodIn_r _ [12, 2, 8, 18, 19, 20, 21, 22, 23, 24, 25] (by decide +kernel) (by decide +kernel)
set_option maxRecDepth 20000 in
theorem gX4_open_X4_clear : GoodIn wsX4_open (wsV RX4 51 RX4 yX4_clear wsX4_clear) := goodIn_app (goodIn_of _ (by decide +kernel)) ggX4_open_X4_clear
set_option maxRecDepth 20000 in
theorem ggX4_open_X4_setPlace : GoodIn wsX4_open wsX4_setPlace := goodIn_r _ [16, 2, 17, 18, 19, 20, 21, 22, 23, 24, 25] (by decide +kernel) (by decide +kernel)
set_option maxRecDepth 20000 in
theorem gX4_open_X4_setPlace : GoodIn wsX4_open (wsV RX4 55 RX4 yX4_setPlace wsX4_setPlace) := goodIn_app (goodIn_of _ (by decide +kernel)) ggX4_open_X4_setPlace
theorem dX4_open_0 : decode cX4_open 0 = .ok (.aload_n 0, 1) := by decide +kernel
theorem dX4_open_1 : decode cX4_open 1 = .ok (.invokevirtual 47, 3) := by decide +kernel
theorem dX4_open_4 : decode cX4_open 4 = .ok (.istore_n 3, 1) := by decide +kernel
theorem dX4_open_5 : decode cX4_open 5 = .ok (.iload_n 3, 1) := by decide +kernel
theorem dX4_open_6 : decode cX4_open 6 = .ok (.aload_n 0, 1) := by decide +kernel
theorem dX4_open_7 : decode cX4_open 7 = .ok (.getfield 32, 3) := by decide +kernel
theorem dX4_open_10 : decode cX4_open 10 = .ok (.if_icmp .ne 13, 3) := by decide +kernel
theorem dX4_open_13 : decode cX4_open 13 = .ok (.aload_n 0, 1) := by decide +kernel
theorem dX4_open_14 : decode cX4_open 14 = .ok (.dup, 1) := by decide +kernel
theorem dX4_open_15 : decode cX4_open 15 = .ok (.getfield 32, 3) := by decide +kernel
theorem dX4_open_18 : decode cX4_open 18 = .ok (.iconst 1, 1) := by decide +kernel
theorem dX4_open_19 : decode cX4_open 19 = .ok (.iadd, 1) := by decide +kernel
theorem dX4_open_20 : decode cX4_open 20 = .ok (.putfield 32, 3) := by decide +kernel
theorem dX4_open_23 : decode cX4_open 23 = .ok (.aload_n 0, 1) := by decide +kernel
theorem dX4_open_24 : decode cX4_open 24 = .ok (.iload_n 3, 1) := by decide +kernel
theorem dX4_open_25 : decode cX4_open 25 = .ok (.invokevirtual 51, 3) := by decide +kernel
theorem dX4_open_28 : decode cX4_open 28 = .ok (.aload_n 0, 1) := by decide +kernel
theorem dX4_open_29 : decode cX4_open 29 = .ok (.getfield 11, 3) := by decide +kernel
theorem dX4_open_32 : decode cX4_open 32 = .ok (.iconst 0, 1) := by decide +kernel
theorem dX4_open_33 : decode cX4_open 33 = .ok (.aaload, 1) := by decide +kernel
theorem dX4_open_34 : decode cX4_open 34 = .ok (.iload_n 3, 1) := by decide +kernel
theorem dX4_open_35 : decode cX4_open 35 = .ok (.iload_n 1, 1) := by decide +kernel
theorem dX4_open_36 : decode cX4_open 36 = .ok (.i2l, 1) := by decide +kernel
theorem dX4_open_37 : decode cX4_open 37 = .ok (.lastore, 1) := by decide +kernel
theorem dX4_open_38 : decode cX4_open 38 = .ok (.aload_n 0, 1) := by decide +kernel
theorem dX4_open_39 : decode cX4_open 39 = .ok (.getfield 11, 3) := by decide +kernel
theorem dX4_open_42 : decode cX4_open 42 = .ok (.iconst 1, 1) := by decide +kernel
theorem dX4_open_43 : decode cX4_open 43 = .ok (.aaload, 1) := by decide +kernel
theorem dX4_open_44 : decode cX4_open 44 = .ok (.iload_n 3, 1) := by decide +kernel
theorem dX4_open_45 : decode cX4_open 45 = .ok (.iload_n 2, 1) := by decide +kernel
theorem dX4_open_46 : decode cX4_open 46 = .ok (.i2l, 1) := by decide +kernel
theorem dX4_open_47 : decode cX4_open 47 = .ok (.lastore, 1) := by decide +kernel
theorem dX4_open_48 : decode cX4_open 48 = .ok (.aload_n 0, 1) := by decide +kernel
theorem dX4_open_49 : decode cX4_open 49 = .ok (.iload_n 3, 1) := by decide +kernel
theorem dX4_open_50 : decode cX4_open 50 = .ok (.invokevirtual 55, 3) := by decide +kernel
theorem dX4_open_53 : decode cX4_open 53 = .ok (.iload_n 3, 1) := by decide +kernel
theorem dX4_open_54 : decode cX4_open 54 = .ok (.ireturn, 1) := by decide +kernel
set_option maxRecDepth 20000 in
theorem ggX4_close_X4_clear : GoodIn wsX4_close wsX4_clear := goodIn_r _ [8, 2, 3, 9, 10, 11, 12, 13, 14, 15, 16] (by decide +kernel) (by decide +kernel)
set_option maxRecDepth 20000 in
theorem gX4_close_X4_clear : GoodIn wsX4_close (wsV RX4 51 RX4 yX4_clear wsX4_clear) := goodIn_app (goodIn_of _ (by decide +kernel)) ggX4_close_X4_clear
theorem dX4_close_0 : decode cX4_close 0 = .ok (.aload_n 0, 1) := by decide +kernel
theorem dX4_close_1 : decode cX4_close 1 = .ok (.iload_n 1, 1) := by decide +kernel
theorem dX4_close_2 : decode cX4_close 2 = .ok (.invokevirtual 51, 3) := by decide +kernel
theorem dX4_close_5 : decode cX4_close 5 = .ok (.aload_n 0, 1) := by decide +kernel
theorem dX4_close_6 : decode cX4_close 6 = .ok (.getfield 32, 3) := by decide +kernel
theorem dX4_close_9 : decode cX4_close 9 = .ok (.iconst 1, 1) := by decide +kernel
theorem dX4_close_10 : decode cX4_close 10 = .ok (.isub, 1) := by decide +kernel
theorem dX4_close_11 : decode cX4_close 11 = .ok (.istore_n 2, 1) := by decide +kernel
theorem dX4_close_12 : decode cX4_close 12 = .ok (.iload_n 2, 1) := by decide +kernel
theorem dX4_close_13 : decode cX4_close 13 = .ok (.ifCond .lt 29, 3) := by decide +kernel
theorem dX4_close_16 : decode cX4_close 16 = .ok (.aload_n 0, 1) := by decide +kernel
theorem dX4_close_17 : decode cX4_close 17 = .ok (.getfield 11, 3) := by decide +kernel
theorem dX4_close_20 : decode cX4_close 20 = .ok (.iconst 0, 1) := by decide +kernel
theorem dX4_close_21 : decode cX4_close 21 = .ok (.aaload, 1) := by decide +kernel
theorem dX4_close_22 : decode cX4_close 22 = .ok (.iload_n 2, 1) := by decide +kernel
theorem dX4_close_23 : decode cX4_close 23 = .ok (.laload, 1) := by decide +kernel
theorem dX4_close_24 : decode cX4_close 24 = .ok (.ldc2_w 45, 3) := by decide +kernel
theorem dX4_close_27 : decode cX4_close 27 = .ok (.lcmp, 1) := by decide +kernel
theorem dX4_close_28 : decode cX4_close 28 = .ok (.ifCond .ne 14, 3) := by decide +kernel
theorem dX4_close_31 : decode cX4_close 31 = .ok (.aload_n 0, 1) := by decide +kernel
theorem dX4_close_32 : decode cX4_close 32 = .ok (.iload_n 2, 1) := by decide +kernel
theorem dX4_close_33 : decode cX4_close 33 = .ok (.putfield 32, 3) := by decide +kernel
theorem dX4_close_36 : decode cX4_close 36 = .ok (.iinc 2 (-1), 3) := by decide +kernel
theorem dX4_close_39 : decode cX4_close 39 = .ok (.goto (-27), 3) := by decide +kernel
theorem dX4_close_42 : decode cX4_close 42 = .ok (.return_, 1) := by decide +kernel
theorem dX4_clear_0 : decode cX4_clear 0 = .ok (.iconst 0, 1) := by decide +kernel
theorem dX4_clear_1 : decode cX4_clear 1 = .ok (.istore_n 2, 1) := by decide +kernel
theorem dX4_clear_2 : decode cX4_clear 2 = .ok (.iload_n 2, 1) := by decide +kernel
theorem dX4_clear_3 : decode cX4_clear 3 = .ok (.bipush 12, 2) := by decide +kernel
theorem dX4_clear_5 : decode cX4_clear 5 = .ok (.if_icmp .ge 20, 3) := by decide +kernel
theorem dX4_clear_8 : decode cX4_clear 8 = .ok (.aload_n 0, 1) := by decide +kernel
theorem dX4_clear_9 : decode cX4_clear 9 = .ok (.getfield 11, 3) := by decide +kernel
theorem dX4_clear_12 : decode cX4_clear 12 = .ok (.iload_n 2, 1) := by decide +kernel
theorem dX4_clear_13 : decode cX4_clear 13 = .ok (.aaload, 1) := by decide +kernel
theorem dX4_clear_14 : decode cX4_clear 14 = .ok (.iload_n 1, 1) := by decide +kernel
theorem dX4_clear_15 : decode cX4_clear 15 = .ok (.ldc2_w 45, 3) := by decide +kernel
theorem dX4_clear_18 : decode cX4_clear 18 = .ok (.lastore, 1) := by decide +kernel
theorem dX4_clear_19 : decode cX4_clear 19 = .ok (.iinc 2 1, 3) := by decide +kernel
theorem dX4_clear_22 : decode cX4_clear 22 = .ok (.goto (-20), 3) := by decide +kernel
theorem dX4_clear_25 : decode cX4_clear 25 = .ok (.aload_n 0, 1) := by decide +kernel
theorem dX4_clear_26 : decode cX4_clear 26 = .ok (.getfield 11, 3) := by decide +kernel
theorem dX4_clear_29 : decode cX4_clear 29 = .ok (.bipush 11, 2) := by decide +kernel
theorem dX4_clear_31 : decode cX4_clear 31 = .ok (.aaload, 1) := by decide +kernel
theorem dX4_clear_32 : decode cX4_clear 32 = .ok (.iload_n 1, 1) := by decide +kernel
theorem dX4_clear_33 : decode cX4_clear 33 = .ok (.lconst 0, 1) := by decide +kernel
theorem dX4_clear_34 : decode cX4_clear 34 = .ok (.lastore, 1) := by decide +kernel
theorem dX4_clear_35 : decode cX4_clear 35 = .ok (.return_, 1) := by decide +kernel
theorem dX4_setPlace_0 : decode cX4_setPlace 0 = .ok (.aload_n 0, 1) := by decide +kernel
theorem dX4_setPlace_1 : decode cX4_setPlace 1 = .ok (.getfield 11, 3) := by decide +kernel
theorem dX4_setPlace_4 : decode cX4_setPlace 4 = .ok (.bipush 8, 2) := by decide +kernel
theorem dX4_setPlace_6 : decode cX4_setPlace 6 = .ok (.aaload, 1) := by decide +kernel
theorem dX4_setPlace_7 : decode cX4_setPlace 7 = .ok (.iload_n 1, 1) := by decide +kernel
theorem dX4_setPlace_8 : decode cX4_setPlace 8 = .ok (.aload_n 0, 1) := by decide +kernel
theorem dX4_setPlace_9 : decode cX4_setPlace 9 = .ok (.getfield 23, 3) := by decide +kernel
theorem dX4_setPlace_12 : decode cX4_setPlace 12 = .ok (.lastore, 1) := by decide +kernel
theorem dX4_setPlace_13 : decode cX4_setPlace 13 = .ok (.aload_n 0, 1) := by decide +kernel
theorem dX4_setPlace_14 : decode cX4_setPlace 14 = .ok (.dup, 1) := by decide +kernel
theorem dX4_setPlace_15 : decode cX4_setPlace 15 = .ok (.getfield 23, 3) := by decide +kernel
theorem dX4_setPlace_18 : decode cX4_setPlace 18 = .ok (.lconst 1, 1) := by decide +kernel
theorem dX4_setPlace_19 : decode cX4_setPlace 19 = .ok (.ladd, 1) := by decide +kernel
theorem dX4_setPlace_20 : decode cX4_setPlace 20 = .ok (.putfield 23, 3) := by decide +kernel
theorem dX4_setPlace_23 : decode cX4_setPlace 23 = .ok (.return_, 1) := by decide +kernel
theorem dX4_setTick_0 : decode cX4_setTick 0 = .ok (.aload_n 0, 1) := by decide +kernel
theorem dX4_setTick_1 : decode cX4_setTick 1 = .ok (.getfield 11, 3) := by decide +kernel
theorem dX4_setTick_4 : decode cX4_setTick 4 = .ok (.iconst 2, 1) := by decide +kernel
theorem dX4_setTick_5 : decode cX4_setTick 5 = .ok (.aaload, 1) := by decide +kernel
theorem dX4_setTick_6 : decode cX4_setTick 6 = .ok (.iload_n 1, 1) := by decide +kernel
theorem dX4_setTick_7 : decode cX4_setTick 7 = .ok (.lload_n 2, 1) := by decide +kernel
theorem dX4_setTick_8 : decode cX4_setTick 8 = .ok (.ldc2_w 58, 3) := by decide +kernel
theorem dX4_setTick_11 : decode cX4_setTick 11 = .ok (.invokestatic 60, 3) := by decide +kernel
theorem dX4_setTick_14 : decode cX4_setTick 14 = .ok (.lastore, 1) := by decide +kernel
theorem dX4_setTick_15 : decode cX4_setTick 15 = .ok (.aload_n 0, 1) := by decide +kernel
theorem dX4_setTick_16 : decode cX4_setTick 16 = .ok (.getfield 11, 3) := by decide +kernel
theorem dX4_setTick_19 : decode cX4_setTick 19 = .ok (.bipush 11, 2) := by decide +kernel
theorem dX4_setTick_21 : decode cX4_setTick 21 = .ok (.aaload, 1) := by decide +kernel
theorem dX4_setTick_22 : decode cX4_setTick 22 = .ok (.iload_n 1, 1) := by decide +kernel
theorem dX4_setTick_23 : decode cX4_setTick 23 = .ok (.lconst 0, 1) := by decide +kernel
theorem dX4_setTick_24 : decode cX4_setTick 24 = .ok (.lastore, 1) := by decide +kernel
theorem dX4_setTick_25 : decode cX4_setTick 25 = .ok (.return_, 1) := by decide +kernel
theorem dX4_isBehind_0 : decode cX4_isBehind 0 = .ok (.iload_n 1, 1) := by decide +kernel
theorem dX4_isBehind_1 : decode cX4_isBehind 1 = .ok (.i2l, 1) := by decide +kernel
theorem dX4_isBehind_2 : decode cX4_isBehind 2 = .ok (.lstore_n 3, 1) := by decide +kernel
theorem dX4_isBehind_3 : decode cX4_isBehind 3 = .ok (.iconst 0, 1) := by decide +kernel
theorem dX4_isBehind_4 : decode cX4_isBehind 4 = .ok (.istore 5, 2) := by decide +kernel
theorem dX4_isBehind_6 : decode cX4_isBehind 6 = .ok (.iload 5, 2) := by decide +kernel
theorem dX4_isBehind_8 : decode cX4_isBehind 8 = .ok (.sipush 200, 3) := by decide +kernel
theorem dX4_isBehind_11 : decode cX4_isBehind 11 = .ok (.if_icmp .ge 45, 3) := by decide +kernel
theorem dX4_isBehind_14 : decode cX4_isBehind 14 = .ok (.lload_n 3, 1) := by decide +kernel
theorem dX4_isBehind_15 : decode cX4_isBehind 15 = .ok (.lconst 0, 1) := by decide +kernel
theorem dX4_isBehind_16 : decode cX4_isBehind 16 = .ok (.lcmp, 1) := by decide +kernel
theorem dX4_isBehind_17 : decode cX4_isBehind 17 = .ok (.ifCond .lt 39, 3) := by decide +kernel
theorem dX4_isBehind_20 : decode cX4_isBehind 20 = .ok (.lload_n 3, 1) := by decide +kernel
theorem dX4_isBehind_21 : decode cX4_isBehind 21 = .ok (.aload_n 0, 1) := by decide +kernel
theorem dX4_isBehind_22 : decode cX4_isBehind 22 = .ok (.getfield 32, 3) := by decide +kernel
theorem dX4_isBehind_25 : decode cX4_isBehind 25 = .ok (.i2l, 1) := by decide +kernel
theorem dX4_isBehind_26 : decode cX4_isBehind 26 = .ok (.lcmp, 1) := by decide +kernel
theorem dX4_isBehind_27 : decode cX4_isBehind 27 = .ok (.ifCond .ge 29, 3) := by decide +kernel
theorem dX4_isBehind_30 : decode cX4_isBehind 30 = .ok (.lload_n 3, 1) := by decide +kernel
theorem dX4_isBehind_31 : decode cX4_isBehind 31 = .ok (.iload_n 2, 1) := by decide +kernel
theorem dX4_isBehind_32 : decode cX4_isBehind 32 = .ok (.i2l, 1) := by decide +kernel
theorem dX4_isBehind_33 : decode cX4_isBehind 33 = .ok (.lcmp, 1) := by decide +kernel
theorem dX4_isBehind_34 : decode cX4_isBehind 34 = .ok (.ifCond .ne 5, 3) := by decide +kernel
theorem dX4_isBehind_37 : decode cX4_isBehind 37 = .ok (.iconst 1, 1) := by decide +kernel
theorem dX4_isBehind_38 : decode cX4_isBehind 38 = .ok (.ireturn, 1) := by decide +kernel
theorem dX4_isBehind_39 : decode cX4_isBehind 39 = .ok (.aload_n 0, 1) := by decide +kernel
theorem dX4_isBehind_40 : decode cX4_isBehind 40 = .ok (.getfield 11, 3) := by decide +kernel
theorem dX4_isBehind_43 : decode cX4_isBehind 43 = .ok (.bipush 6, 2) := by decide +kernel
theorem dX4_isBehind_45 : decode cX4_isBehind 45 = .ok (.aaload, 1) := by decide +kernel
theorem dX4_isBehind_46 : decode cX4_isBehind 46 = .ok (.lload_n 3, 1) := by decide +kernel
theorem dX4_isBehind_47 : decode cX4_isBehind 47 = .ok (.l2i, 1) := by decide +kernel
theorem dX4_isBehind_48 : decode cX4_isBehind 48 = .ok (.laload, 1) := by decide +kernel
theorem dX4_isBehind_49 : decode cX4_isBehind 49 = .ok (.lstore_n 3, 1) := by decide +kernel
theorem dX4_isBehind_50 : decode cX4_isBehind 50 = .ok (.iinc 5 1, 3) := by decide +kernel
theorem dX4_isBehind_53 : decode cX4_isBehind 53 = .ok (.goto (-47), 3) := by decide +kernel
theorem dX4_isBehind_56 : decode cX4_isBehind 56 = .ok (.iconst 0, 1) := by decide +kernel
theorem dX4_isBehind_57 : decode cX4_isBehind 57 = .ok (.ireturn, 1) := by decide +kernel
set_option maxRecDepth 20000 in
theorem ggX4_tellDropped_X4_setTick : GoodIn wsX4_tellDropped wsX4_setTick := goodIn_r _ [13, 2, 14, 15, 16, 7, 17, 18, 19, 20, 21, 22, 23, 24, 25] (by decide +kernel) (by decide +kernel)
set_option maxRecDepth 20000 in
theorem gX4_tellDropped_X4_setTick : GoodIn wsX4_tellDropped (wsV RX4 69 RX4 yX4_setTick wsX4_setTick) := goodIn_app (goodIn_of _ (by decide +kernel)) ggX4_tellDropped_X4_setTick
theorem dX4_tellDropped_0 : decode cX4_tellDropped 0 = .ok (.iconst 0, 1) := by decide +kernel
theorem dX4_tellDropped_1 : decode cX4_tellDropped 1 = .ok (.istore_n 2, 1) := by decide +kernel
theorem dX4_tellDropped_2 : decode cX4_tellDropped 2 = .ok (.iload_n 2, 1) := by decide +kernel
theorem dX4_tellDropped_3 : decode cX4_tellDropped 3 = .ok (.aload_n 0, 1) := by decide +kernel
theorem dX4_tellDropped_4 : decode cX4_tellDropped 4 = .ok (.getfield 32, 3) := by decide +kernel
theorem dX4_tellDropped_7 : decode cX4_tellDropped 7 = .ok (.if_icmp .ge 59, 3) := by decide +kernel
theorem dX4_tellDropped_10 : decode cX4_tellDropped 10 = .ok (.aload_n 0, 1) := by decide +kernel
theorem dX4_tellDropped_11 : decode cX4_tellDropped 11 = .ok (.getfield 11, 3) := by decide +kernel
theorem dX4_tellDropped_14 : decode cX4_tellDropped 14 = .ok (.bipush 6, 2) := by decide +kernel
theorem dX4_tellDropped_16 : decode cX4_tellDropped 16 = .ok (.aaload, 1) := by decide +kernel
theorem dX4_tellDropped_17 : decode cX4_tellDropped 17 = .ok (.iload_n 2, 1) := by decide +kernel
theorem dX4_tellDropped_18 : decode cX4_tellDropped 18 = .ok (.laload, 1) := by decide +kernel
theorem dX4_tellDropped_19 : decode cX4_tellDropped 19 = .ok (.iload_n 1, 1) := by decide +kernel
theorem dX4_tellDropped_20 : decode cX4_tellDropped 20 = .ok (.i2l, 1) := by decide +kernel
theorem dX4_tellDropped_21 : decode cX4_tellDropped 21 = .ok (.lcmp, 1) := by decide +kernel
theorem dX4_tellDropped_22 : decode cX4_tellDropped 22 = .ok (.ifCond .ne 38, 3) := by decide +kernel
theorem dX4_tellDropped_25 : decode cX4_tellDropped 25 = .ok (.aload_n 0, 1) := by decide +kernel
theorem dX4_tellDropped_26 : decode cX4_tellDropped 26 = .ok (.getfield 11, 3) := by decide +kernel
theorem dX4_tellDropped_29 : decode cX4_tellDropped 29 = .ok (.bipush 6, 2) := by decide +kernel
theorem dX4_tellDropped_31 : decode cX4_tellDropped 31 = .ok (.aaload, 1) := by decide +kernel
theorem dX4_tellDropped_32 : decode cX4_tellDropped 32 = .ok (.iload_n 2, 1) := by decide +kernel
theorem dX4_tellDropped_33 : decode cX4_tellDropped 33 = .ok (.ldc2_w 45, 3) := by decide +kernel
theorem dX4_tellDropped_36 : decode cX4_tellDropped 36 = .ok (.lastore, 1) := by decide +kernel
theorem dX4_tellDropped_37 : decode cX4_tellDropped 37 = .ok (.aload_n 0, 1) := by decide +kernel
theorem dX4_tellDropped_38 : decode cX4_tellDropped 38 = .ok (.iload_n 2, 1) := by decide +kernel
theorem dX4_tellDropped_39 : decode cX4_tellDropped 39 = .ok (.aload_n 0, 1) := by decide +kernel
theorem dX4_tellDropped_40 : decode cX4_tellDropped 40 = .ok (.getfield 11, 3) := by decide +kernel
theorem dX4_tellDropped_43 : decode cX4_tellDropped 43 = .ok (.bipush 10, 2) := by decide +kernel
theorem dX4_tellDropped_45 : decode cX4_tellDropped 45 = .ok (.aaload, 1) := by decide +kernel
theorem dX4_tellDropped_46 : decode cX4_tellDropped 46 = .ok (.iload_n 2, 1) := by decide +kernel
theorem dX4_tellDropped_47 : decode cX4_tellDropped 47 = .ok (.laload, 1) := by decide +kernel
theorem dX4_tellDropped_48 : decode cX4_tellDropped 48 = .ok (.aload_n 0, 1) := by decide +kernel
theorem dX4_tellDropped_49 : decode cX4_tellDropped 49 = .ok (.getfield 19, 3) := by decide +kernel
theorem dX4_tellDropped_52 : decode cX4_tellDropped 52 = .ok (.lconst 1, 1) := by decide +kernel
theorem dX4_tellDropped_53 : decode cX4_tellDropped 53 = .ok (.ladd, 1) := by decide +kernel
theorem dX4_tellDropped_54 : decode cX4_tellDropped 54 = .ok (.invokestatic 66, 3) := by decide +kernel
theorem dX4_tellDropped_57 : decode cX4_tellDropped 57 = .ok (.invokevirtual 69, 3) := by decide +kernel
theorem dX4_tellDropped_60 : decode cX4_tellDropped 60 = .ok (.iinc 2 1, 3) := by decide +kernel
theorem dX4_tellDropped_63 : decode cX4_tellDropped 63 = .ok (.goto (-61), 3) := by decide +kernel
theorem dX4_tellDropped_66 : decode cX4_tellDropped 66 = .ok (.return_, 1) := by decide +kernel
set_option maxRecDepth 20000 in
theorem ggX4_tellGone_X4_setTick : GoodIn wsX4_tellGone wsX4_setTick := goodIn_r _ [9, 2, 10, 11, 12, 13, 14, 15, 16, 17, 18, 19, 20, 21, 22] (by decide +kernel) (by decide +kernel)
set_option maxRecDepth 20000 in
theorem gX4_tellGone_X4_setTick : GoodIn wsX4_tellGone (wsV RX4 69 RX4 yX4_setTick wsX4_setTick) := goodIn_app (goodIn_of _ (by decide +kernel)) ggX4_tellGone_X4_setTick
theorem dX4_tellGone_0 : decode cX4_tellGone 0 = .ok (.iconst 0, 1) := by decide +kernel
theorem dX4_tellGone_1 : decode cX4_tellGone 1 = .ok (.istore_n 2, 1) := by decide +kernel
theorem dX4_tellGone_2 : decode cX4_tellGone 2 = .ok (.iload_n 2, 1) := by decide +kernel
theorem dX4_tellGone_3 : decode cX4_tellGone 3 = .ok (.aload_n 0, 1) := by decide +kernel
theorem dX4_tellGone_4 : decode cX4_tellGone 4 = .ok (.getfield 32, 3) := by decide +kernel
theorem dX4_tellGone_7 : decode cX4_tellGone 7 = .ok (.if_icmp .ge 55, 3) := by decide +kernel
theorem dX4_tellGone_10 : decode cX4_tellGone 10 = .ok (.aload_n 0, 1) := by decide +kernel
theorem dX4_tellGone_11 : decode cX4_tellGone 11 = .ok (.getfield 11, 3) := by decide +kernel
theorem dX4_tellGone_14 : decode cX4_tellGone 14 = .ok (.bipush 6, 2) := by decide +kernel
theorem dX4_tellGone_16 : decode cX4_tellGone 16 = .ok (.aaload, 1) := by decide +kernel
theorem dX4_tellGone_17 : decode cX4_tellGone 17 = .ok (.iload_n 2, 1) := by decide +kernel
theorem dX4_tellGone_18 : decode cX4_tellGone 18 = .ok (.laload, 1) := by decide +kernel
theorem dX4_tellGone_19 : decode cX4_tellGone 19 = .ok (.iload_n 1, 1) := by decide +kernel
theorem dX4_tellGone_20 : decode cX4_tellGone 20 = .ok (.i2l, 1) := by decide +kernel
theorem dX4_tellGone_21 : decode cX4_tellGone 21 = .ok (.lcmp, 1) := by decide +kernel
theorem dX4_tellGone_22 : decode cX4_tellGone 22 = .ok (.ifCond .ne 34, 3) := by decide +kernel
theorem dX4_tellGone_25 : decode cX4_tellGone 25 = .ok (.aload_n 0, 1) := by decide +kernel
theorem dX4_tellGone_26 : decode cX4_tellGone 26 = .ok (.getfield 11, 3) := by decide +kernel
theorem dX4_tellGone_29 : decode cX4_tellGone 29 = .ok (.bipush 6, 2) := by decide +kernel
theorem dX4_tellGone_31 : decode cX4_tellGone 31 = .ok (.aaload, 1) := by decide +kernel
theorem dX4_tellGone_32 : decode cX4_tellGone 32 = .ok (.iload_n 2, 1) := by decide +kernel
theorem dX4_tellGone_33 : decode cX4_tellGone 33 = .ok (.ldc2_w 45, 3) := by decide +kernel
theorem dX4_tellGone_36 : decode cX4_tellGone 36 = .ok (.lastore, 1) := by decide +kernel
theorem dX4_tellGone_37 : decode cX4_tellGone 37 = .ok (.aload_n 0, 1) := by decide +kernel
theorem dX4_tellGone_38 : decode cX4_tellGone 38 = .ok (.iload_n 2, 1) := by decide +kernel
theorem dX4_tellGone_39 : decode cX4_tellGone 39 = .ok (.aload_n 0, 1) := by decide +kernel
theorem dX4_tellGone_40 : decode cX4_tellGone 40 = .ok (.getfield 19, 3) := by decide +kernel
theorem dX4_tellGone_43 : decode cX4_tellGone 43 = .ok (.aload_n 0, 1) := by decide +kernel
theorem dX4_tellGone_44 : decode cX4_tellGone 44 = .ok (.getfield 11, 3) := by decide +kernel
theorem dX4_tellGone_47 : decode cX4_tellGone 47 = .ok (.bipush 9, 2) := by decide +kernel
theorem dX4_tellGone_49 : decode cX4_tellGone 49 = .ok (.aaload, 1) := by decide +kernel
theorem dX4_tellGone_50 : decode cX4_tellGone 50 = .ok (.iload_n 2, 1) := by decide +kernel
theorem dX4_tellGone_51 : decode cX4_tellGone 51 = .ok (.laload, 1) := by decide +kernel
theorem dX4_tellGone_52 : decode cX4_tellGone 52 = .ok (.ladd, 1) := by decide +kernel
theorem dX4_tellGone_53 : decode cX4_tellGone 53 = .ok (.invokevirtual 69, 3) := by decide +kernel
theorem dX4_tellGone_56 : decode cX4_tellGone 56 = .ok (.iinc 2 1, 3) := by decide +kernel
theorem dX4_tellGone_59 : decode cX4_tellGone 59 = .ok (.goto (-57), 3) := by decide +kernel
theorem dX4_tellGone_62 : decode cX4_tellGone 62 = .ok (.return_, 1) := by decide +kernel
theorem dX4_leastTick_0 : decode cX4_leastTick 0 = .ok (.ldc2_w 58, 3) := by decide +kernel
theorem dX4_leastTick_3 : decode cX4_leastTick 3 = .ok (.lstore_n 1, 1) := by decide +kernel
theorem dX4_leastTick_4 : decode cX4_leastTick 4 = .ok (.iconst 0, 1) := by decide +kernel
theorem dX4_leastTick_5 : decode cX4_leastTick 5 = .ok (.istore_n 3, 1) := by decide +kernel
theorem dX4_leastTick_6 : decode cX4_leastTick 6 = .ok (.iload_n 3, 1) := by decide +kernel
theorem dX4_leastTick_7 : decode cX4_leastTick 7 = .ok (.aload_n 0, 1) := by decide +kernel
theorem dX4_leastTick_8 : decode cX4_leastTick 8 = .ok (.getfield 32, 3) := by decide +kernel
theorem dX4_leastTick_11 : decode cX4_leastTick 11 = .ok (.if_icmp .ge 38, 3) := by decide +kernel
theorem dX4_leastTick_14 : decode cX4_leastTick 14 = .ok (.aload_n 0, 1) := by decide +kernel
theorem dX4_leastTick_15 : decode cX4_leastTick 15 = .ok (.getfield 11, 3) := by decide +kernel
theorem dX4_leastTick_18 : decode cX4_leastTick 18 = .ok (.iconst 2, 1) := by decide +kernel
theorem dX4_leastTick_19 : decode cX4_leastTick 19 = .ok (.aaload, 1) := by decide +kernel
theorem dX4_leastTick_20 : decode cX4_leastTick 20 = .ok (.iload_n 3, 1) := by decide +kernel
theorem dX4_leastTick_21 : decode cX4_leastTick 21 = .ok (.laload, 1) := by decide +kernel
theorem dX4_leastTick_22 : decode cX4_leastTick 22 = .ok (.lstore 4, 2) := by decide +kernel
theorem dX4_leastTick_24 : decode cX4_leastTick 24 = .ok (.lload 4, 2) := by decide +kernel
theorem dX4_leastTick_26 : decode cX4_leastTick 26 = .ok (.ldc2_w 45, 3) := by decide +kernel
theorem dX4_leastTick_29 : decode cX4_leastTick 29 = .ok (.lcmp, 1) := by decide +kernel
theorem dX4_leastTick_30 : decode cX4_leastTick 30 = .ok (.ifCond .eq 13, 3) := by decide +kernel
theorem dX4_leastTick_33 : decode cX4_leastTick 33 = .ok (.lload 4, 2) := by decide +kernel
theorem dX4_leastTick_35 : decode cX4_leastTick 35 = .ok (.lload_n 1, 1) := by decide +kernel
theorem dX4_leastTick_36 : decode cX4_leastTick 36 = .ok (.lcmp, 1) := by decide +kernel
theorem dX4_leastTick_37 : decode cX4_leastTick 37 = .ok (.ifCond .ge 6, 3) := by decide +kernel
theorem dX4_leastTick_40 : decode cX4_leastTick 40 = .ok (.lload 4, 2) := by decide +kernel
theorem dX4_leastTick_42 : decode cX4_leastTick 42 = .ok (.lstore_n 1, 1) := by decide +kernel
theorem dX4_leastTick_43 : decode cX4_leastTick 43 = .ok (.iinc 3 1, 3) := by decide +kernel
theorem dX4_leastTick_46 : decode cX4_leastTick 46 = .ok (.goto (-40), 3) := by decide +kernel
theorem dX4_leastTick_49 : decode cX4_leastTick 49 = .ok (.lload_n 1, 1) := by decide +kernel
theorem dX4_leastTick_50 : decode cX4_leastTick 50 = .ok (.ldc2_w 58, 3) := by decide +kernel
theorem dX4_leastTick_53 : decode cX4_leastTick 53 = .ok (.lcmp, 1) := by decide +kernel
theorem dX4_leastTick_54 : decode cX4_leastTick 54 = .ok (.ifCond .ge 7, 3) := by decide +kernel
theorem dX4_leastTick_57 : decode cX4_leastTick 57 = .ok (.lload_n 1, 1) := by decide +kernel
theorem dX4_leastTick_58 : decode cX4_leastTick 58 = .ok (.goto 6, 3) := by decide +kernel
theorem dX4_leastTick_61 : decode cX4_leastTick 61 = .ok (.ldc2_w 45, 3) := by decide +kernel
theorem dX4_leastTick_64 : decode cX4_leastTick 64 = .ok (.lreturn, 1) := by decide +kernel
set_option maxRecDepth 20000 in
theorem ggX4_liesIn_X5_wheelOf : GoodIn wsX4_liesIn wsX5_wheelOf := goodIn_r _ [7] (by decide +kernel) (by decide +kernel)
set_option maxRecDepth 20000 in
theorem gX4_liesIn_X5_wheelOf : GoodIn wsX4_liesIn (va_wsS RX4 73 yX5_wheelOf wsX5_wheelOf) := goodIn_app (goodIn_of _ (by decide +kernel)) ggX4_liesIn_X5_wheelOf
set_option maxRecDepth 20000 in
theorem ggX4_liesIn_X5_slotOf : GoodIn wsX4_liesIn wsX5_slotOf := goodIn_r _ [10, 11] (by decide +kernel) (by decide +kernel)
set_option maxRecDepth 20000 in
theorem gX4_liesIn_X5_slotOf : GoodIn wsX4_liesIn (va_wsS RX4 79 yX5_slotOf wsX5_slotOf) := goodIn_app (goodIn_of _ (by decide +kernel)) ggX4_liesIn_X5_slotOf
theorem dX4_liesIn_0 : decode cX4_liesIn 0 = .ok (.aload_n 0, 1) := by decide +kernel
theorem dX4_liesIn_1 : decode cX4_liesIn 1 = .ok (.getfield 11, 3) := by decide +kernel
theorem dX4_liesIn_4 : decode cX4_liesIn 4 = .ok (.iconst 2, 1) := by decide +kernel
theorem dX4_liesIn_5 : decode cX4_liesIn 5 = .ok (.aaload, 1) := by decide +kernel
theorem dX4_liesIn_6 : decode cX4_liesIn 6 = .ok (.iload_n 1, 1) := by decide +kernel
theorem dX4_liesIn_7 : decode cX4_liesIn 7 = .ok (.laload, 1) := by decide +kernel
theorem dX4_liesIn_8 : decode cX4_liesIn 8 = .ok (.lstore 4, 2) := by decide +kernel
theorem dX4_liesIn_10 : decode cX4_liesIn 10 = .ok (.lload 4, 2) := by decide +kernel
theorem dX4_liesIn_12 : decode cX4_liesIn 12 = .ok (.ldc2_w 45, 3) := by decide +kernel
theorem dX4_liesIn_15 : decode cX4_liesIn 15 = .ok (.lcmp, 1) := by decide +kernel
theorem dX4_liesIn_16 : decode cX4_liesIn 16 = .ok (.ifCond .eq 30, 3) := by decide +kernel
theorem dX4_liesIn_19 : decode cX4_liesIn 19 = .ok (.aload_n 0, 1) := by decide +kernel
theorem dX4_liesIn_20 : decode cX4_liesIn 20 = .ok (.getfield 19, 3) := by decide +kernel
theorem dX4_liesIn_23 : decode cX4_liesIn 23 = .ok (.lload 4, 2) := by decide +kernel
theorem dX4_liesIn_25 : decode cX4_liesIn 25 = .ok (.invokestatic 73, 3) := by decide +kernel
theorem dX4_liesIn_28 : decode cX4_liesIn 28 = .ok (.iload_n 2, 1) := by decide +kernel
theorem dX4_liesIn_29 : decode cX4_liesIn 29 = .ok (.if_icmp .ne 17, 3) := by decide +kernel
theorem dX4_liesIn_32 : decode cX4_liesIn 32 = .ok (.iload_n 2, 1) := by decide +kernel
theorem dX4_liesIn_33 : decode cX4_liesIn 33 = .ok (.lload 4, 2) := by decide +kernel
theorem dX4_liesIn_35 : decode cX4_liesIn 35 = .ok (.invokestatic 79, 3) := by decide +kernel
theorem dX4_liesIn_38 : decode cX4_liesIn 38 = .ok (.iload_n 3, 1) := by decide +kernel
theorem dX4_liesIn_39 : decode cX4_liesIn 39 = .ok (.if_icmp .ne 7, 3) := by decide +kernel
theorem dX4_liesIn_42 : decode cX4_liesIn 42 = .ok (.iconst 1, 1) := by decide +kernel
theorem dX4_liesIn_43 : decode cX4_liesIn 43 = .ok (.goto 4, 3) := by decide +kernel
theorem dX4_liesIn_46 : decode cX4_liesIn 46 = .ok (.iconst 0, 1) := by decide +kernel
theorem dX4_liesIn_47 : decode cX4_liesIn 47 = .ok (.ireturn, 1) := by decide +kernel
theorem dX4_duesWith_0 : decode cX4_duesWith 0 = .ok (.lconst 0, 1) := by decide +kernel
theorem dX4_duesWith_1 : decode cX4_duesWith 1 = .ok (.lstore_n 2, 1) := by decide +kernel
theorem dX4_duesWith_2 : decode cX4_duesWith 2 = .ok (.iconst 0, 1) := by decide +kernel
theorem dX4_duesWith_3 : decode cX4_duesWith 3 = .ok (.istore 4, 2) := by decide +kernel
theorem dX4_duesWith_5 : decode cX4_duesWith 5 = .ok (.iload 4, 2) := by decide +kernel
theorem dX4_duesWith_7 : decode cX4_duesWith 7 = .ok (.aload_n 0, 1) := by decide +kernel
theorem dX4_duesWith_8 : decode cX4_duesWith 8 = .ok (.getfield 32, 3) := by decide +kernel
theorem dX4_duesWith_11 : decode cX4_duesWith 11 = .ok (.if_icmp .ge 29, 3) := by decide +kernel
theorem dX4_duesWith_14 : decode cX4_duesWith 14 = .ok (.aload_n 0, 1) := by decide +kernel
theorem dX4_duesWith_15 : decode cX4_duesWith 15 = .ok (.getfield 11, 3) := by decide +kernel
theorem dX4_duesWith_18 : decode cX4_duesWith 18 = .ok (.iload_n 1, 1) := by decide +kernel
theorem dX4_duesWith_19 : decode cX4_duesWith 19 = .ok (.aaload, 1) := by decide +kernel
theorem dX4_duesWith_20 : decode cX4_duesWith 20 = .ok (.iload 4, 2) := by decide +kernel
theorem dX4_duesWith_22 : decode cX4_duesWith 22 = .ok (.laload, 1) := by decide +kernel
theorem dX4_duesWith_23 : decode cX4_duesWith 23 = .ok (.ldc2_w 45, 3) := by decide +kernel
theorem dX4_duesWith_26 : decode cX4_duesWith 26 = .ok (.lcmp, 1) := by decide +kernel
theorem dX4_duesWith_27 : decode cX4_duesWith 27 = .ok (.ifCond .eq 7, 3) := by decide +kernel
theorem dX4_duesWith_30 : decode cX4_duesWith 30 = .ok (.lload_n 2, 1) := by decide +kernel
theorem dX4_duesWith_31 : decode cX4_duesWith 31 = .ok (.lconst 1, 1) := by decide +kernel
theorem dX4_duesWith_32 : decode cX4_duesWith 32 = .ok (.ladd, 1) := by decide +kernel
theorem dX4_duesWith_33 : decode cX4_duesWith 33 = .ok (.lstore_n 2, 1) := by decide +kernel
theorem dX4_duesWith_34 : decode cX4_duesWith 34 = .ok (.iinc 4 1, 3) := by decide +kernel
theorem dX4_duesWith_37 : decode cX4_duesWith 37 = .ok (.goto (-32), 3) := by decide +kernel
theorem dX4_duesWith_40 : decode cX4_duesWith 40 = .ok (.lload_n 2, 1) := by decide +kernel
theorem dX4_duesWith_41 : decode cX4_duesWith 41 = .ok (.lreturn, 1) := by decide +kernel
end
section
abbrev rmX4_leastTick : Room := { frames := 0, cells := 0, slots := 0, locals := 0 }
theorem wX4_leastTick_k58 : Cond.constantLong RX4 58 (1125899906842624) ∈ wsX4_leastTick := by decide +kernel
theorem wX4_leastTick_k45 : Cond.constantLong RX4 45 (-2000000005) ∈ wsX4_leastTick := by decide +kernel
theorem wX4_leastTick_c4 : ∀ w ∈ u_ws RX4 TX4 8, w ∈ wsX4_leastTick := by decide +kernel
theorem wX4_leastTick_f11 : Cond.fieldLink RX4 11 "DueWheels$State" "dues" "[[J" ∈ wsX4_leastTick := by decide +kernel
theorem wX4_leastTick_f32 : Cond.fieldLink RX4 32 "DueWheels$State" "end" "I" ∈ wsX4_leastTick := by decide +kernel
def LX4_leastTick_6  (v : StV)   (post : Int64 → Prop) : Nat → Int64 → Int32 → Prop
  | 0, _, _ => False
  | n + 1, x1, x3 => (((s_en v) ≤ x3 → (((1125899906842624 : Int64) ≤ x1 → post (-2000000005 : Int64)) ∧ (¬ (1125899906842624 : Int64) ≤ x1 → post x1))) ∧ (¬ (s_en v) ≤ x3 → (vp_in x3 200 ∧ ∀ x4_4 : Int64, x4_4 = (s_du v 2 (x3.toNatClampNeg)) → ((x4_4 = (-2000000005 : Int64) → ∀ x3_6 : Int32, x3_6 = x3 + 1 → LX4_leastTick_6  v post n x1 x3_6) ∧ (¬ x4_4 = (-2000000005 : Int64) → ((x1 ≤ x4_4 → ∀ x3_8 : Int32, x3_8 = x3 + 1 → LX4_leastTick_6  v post n x1 x3_8) ∧ (¬ x1 ≤ x4_4 → ∀ x3_9 : Int32, x3_9 = x3 + 1 → LX4_leastTick_6  v post n x4_4 x3_9)))))))
set_option maxHeartbeats 4000000 in
set_option maxRecDepth 100000 in
theorem kX4_leastTick_6 {p : Program} {e : Env} {s : State} {m : MethodId} {args : Array Value} {below : List Frame} {meth : Method} {c : Code} (l : Launch) (dC : Nat → ClassId) (dI : Nat → Nat → Nat) (ad : Nat → Nat) (ci : Nat → ClassId) (A : Nat → Prop) (hAD : xw_D 141 ad A) (st : Nat → StV) (v : StV) (ln : Nat → LnV) (sv : SvV) (kv : KvV) (cu : Nat) (j : Nat) (hj : j < 7)   (post : Int64 → Prop) (C0 : xC p s m args meth c cX4_leastTick 6 (some .long) RX4 wsX4_leastTick (dC, dI) (xT ci)) : ∀ (n : Nat) (x1 : Int64) (x3 : Int32) (H : Heap) (locs : List Loc) (ls : Array Slot), LX4_leastTick_6  v post n x1 x3 → va_P (dC, dI) vwCl (xw 141 ad (xc ad ci (va_up st j v) ln sv kv cu)) H → va_S A s.heap H locs → lv_has ls 6 [(0, .ref (ad (xaS j))), (1, .long x1), (3, .int x3)] → W p l e rmX4_leastTick s m args below meth c H locs 0 0 (MQ below (va_Ql (fun r9 (u : Unit) => post r9 ) (fun u t => va_P (dC, dI) vwCl (xw 141 ad (xc ad ci (va_up st j v) ln sv kv cu)) t.heap) A) args s 0 0 A) (F0 m 6 ls []) := by
  obtain ⟨hx, hb, -, hr, hlocks, hown, hts, hK⟩ := id C0
  intro n
  induction n with
  | zero =>
    intro x1 x3 H locs ls h
    exact False.elim h
  | succ n ih =>
    intro x1 x3 H locs ls h hP hS hl
    rw [LX4_leastTick_6] at h
    refine lv_iload_n hx hb dX4_leastTick_6 rfl (lv_at hl 2 rfl) ?_
    refine lv_aload_n hx hb dX4_leastTick_7 rfl (lv_at hl 0 rfl) ?_
    refine xr_get (D := (dC, dI)) (C := RX4) (T := TX4) (N := 8) (v := .int (s_en v)) hx hb hts wX4_leastTick_c4 hown hK hP (xaS j) (xq_S hj) (xe_S (va_up_self _ _ _)) rfl 4 (by decide) wX4_leastTick_f32 rfl rfl dX4_leastTick_8 ?_
    refine lv_icmp_ge (tgt := 49) hx hb dX4_leastTick_11 (by decide) (fun c_1 => ?_) (fun c_1 => ?_)
    · have h := h.1 c_1
      refine lv_lload_n hx hb dX4_leastTick_49 rfl (lv_at hl 1 rfl) ?_
      refine lv_ldc2 (v := (1125899906842624 : Int64)) hx hb hown (hts _ wX4_leastTick_k58) dX4_leastTick_50 ?_
      refine xr_if_lcmp_ge (tgt := 61) hx hb dX4_leastTick_53 dX4_leastTick_54 (by decide) (fun c_2 => ?_) (fun c_2 => ?_)
      · have h := h.1 c_2
        refine lv_ldc2 (v := (-2000000005 : Int64)) hx hb hown (hts _ wX4_leastTick_k45) dX4_leastTick_61 ?_
        exact W.lret (v := (-2000000005 : Int64)) hx hb hr (fun t ht hW => ⟨⟨(-2000000005 : Int64), (), rfl, h, x_ht ht hP⟩, hS.F ht⟩) hS.2.2 dX4_leastTick_64
      · have h := h.2 c_2
        refine lv_lload_n hx hb dX4_leastTick_57 rfl (lv_at hl 1 rfl) ?_
        refine lv_goto (tgt := 64) hx hb dX4_leastTick_58 (by decide) ?_
        exact W.lret (v := x1) hx hb hr (fun t ht hW => ⟨⟨x1, (), rfl, h, x_ht ht hP⟩, hS.F ht⟩) hS.2.2 dX4_leastTick_64
    · have h := h.2 c_1
      refine lv_aload_n hx hb dX4_leastTick_14 rfl (lv_at hl 0 rfl) ?_
      refine xr_get (D := (dC, dI)) (C := RX4) (T := TX4) (N := 8) (v := .ref (ad (xaD0 j))) hx hb hts wX4_leastTick_c4 hown hK hP (xaS j) (xq_S hj) (xe_S (va_up_self _ _ _)) rfl 6 (by decide) wX4_leastTick_f11 rfl rfl dX4_leastTick_15 ?_
      refine lv_iconst (v := (2 : Int32)) hx hb dX4_leastTick_18 (by decide) ?_
      refine xr_aald (k := 2) (b := ad (xaD j 2)) hx hb hK hP (xaD0 j) 4 (xq_D0 hj) xe_D0 rfl rfl rfl (x_in _ _ (by decide)) rfl dX4_leastTick_19 ?_
      refine lv_iload_n hx hb dX4_leastTick_20 rfl (lv_at hl 2 rfl) ?_
      obtain ⟨g_3, h⟩ := h
      refine xr_lald (k := x3.toNatClampNeg) hx hb hK hP (xaD j 2) 1 (xq_D hj (by decide)) (xe_D (by decide) (va_up_self _ _ _)) rfl rfl g_3 dX4_leastTick_21 ?_
      refine lv_topl (fun x4_4 ex4_4 => ?_)
      have h := h x4_4 ex4_4
      refine lv_lstore (lv' := [(4, .long x4_4), (0, .ref (ad (xaS j))), (1, .long x1), (3, .int x3)]) hx hb dX4_leastTick_22 hl (by decide) rfl (fun ls hl => ?_)
      refine lv_lload hx hb dX4_leastTick_24 (lv_at hl 0 rfl) ?_
      refine lv_ldc2 (v := (-2000000005 : Int64)) hx hb hown (hts _ wX4_leastTick_k45) dX4_leastTick_26 ?_
      refine xr_if_lcmp_eq (tgt := 43) hx hb dX4_leastTick_29 dX4_leastTick_30 (by decide) (fun c_5 => ?_) (fun c_5 => ?_)
      · have h := h.1 c_5
        obtain ⟨x3_6, ex3_6⟩ : ∃ z : Int32, z = x3 + 1 := ⟨_, rfl⟩
        have h := h x3_6 ex3_6
        refine lv_iinc (v := x3_6) (lv' := [(3, .int x3_6), (4, .long x4_4), (0, .ref (ad (xaS j))), (1, .long x1)]) hx hb dX4_leastTick_43 hl (k := 3) rfl (by rw [ex3_6]; rfl) (by decide) rfl (fun ls hl => ?_)
        refine lv_goto (tgt := 6) hx hb dX4_leastTick_46 (by decide) ?_
        exact ih x1 x3_6 _ _ _ h hP hS (lv_sub hl [2, 3, 0] rfl)
      · have h := h.2 c_5
        refine lv_lload hx hb dX4_leastTick_33 (lv_at hl 0 rfl) ?_
        refine lv_lload_n hx hb dX4_leastTick_35 rfl (lv_at hl 2 rfl) ?_
        refine xr_if_lcmp_ge (tgt := 43) hx hb dX4_leastTick_36 dX4_leastTick_37 (by decide) (fun c_7 => ?_) (fun c_7 => ?_)
        · have h := h.1 c_7
          obtain ⟨x3_8, ex3_8⟩ : ∃ z : Int32, z = x3 + 1 := ⟨_, rfl⟩
          have h := h x3_8 ex3_8
          refine lv_iinc (v := x3_8) (lv' := [(3, .int x3_8), (4, .long x4_4), (0, .ref (ad (xaS j))), (1, .long x1)]) hx hb dX4_leastTick_43 hl (k := 3) rfl (by rw [ex3_8]; rfl) (by decide) rfl (fun ls hl => ?_)
          refine lv_goto (tgt := 6) hx hb dX4_leastTick_46 (by decide) ?_
          exact ih x1 x3_8 _ _ _ h hP hS (lv_sub hl [2, 3, 0] rfl)
        · have h := h.2 c_7
          refine lv_lload hx hb dX4_leastTick_40 (lv_at hl 0 rfl) ?_
          refine lv_lstore_n (lv' := [(1, .long x4_4), (4, .long x4_4), (0, .ref (ad (xaS j))), (3, .int x3)]) hx hb dX4_leastTick_42 rfl hl (by decide) rfl (fun ls hl => ?_)
          obtain ⟨x3_9, ex3_9⟩ : ∃ z : Int32, z = x3 + 1 := ⟨_, rfl⟩
          have h := h x3_9 ex3_9
          refine lv_iinc (v := x3_9) (lv' := [(3, .int x3_9), (1, .long x4_4), (4, .long x4_4), (0, .ref (ad (xaS j)))]) hx hb dX4_leastTick_43 hl (k := 3) rfl (by rw [ex3_9]; rfl) (by decide) rfl (fun ls hl => ?_)
          refine lv_goto (tgt := 6) hx hb dX4_leastTick_46 (by decide) ?_
          exact ih x4_4 x3_9 _ _ _ h hP hS (lv_sub hl [3, 1, 0] rfl)
def PX4_leastTick  (v : StV)  (post : Int64 → Prop) : Prop :=
  (∃ n_10 : Nat, LX4_leastTick_6  v  post n_10 (1125899906842624 : Int64) (0 : Int32))
set_option maxHeartbeats 4000000 in
set_option maxRecDepth 100000 in
theorem qX4_leastTick (l : Launch) (dC : Nat → ClassId) (dI : Nat → Nat → Nat) (ad : Nat → Nat) (ci : Nat → ClassId) (A : Nat → Prop) (hAD : xw_D 141 ad A) (st : Nat → StV) (v : StV) (ln : Nat → LnV) (sv : SvV) (kv : KvV) (cu : Nat) (j : Nat) (hj : j < 7)  (post : Int64 → Prop) (h : PX4_leastTick v post) : Met l yX4_leastTick wsX4_leastTick rmX4_leastTick (va_Pc [.ref (ad (xaS j))] (fun U => va_P (dC, dI) vwCl (xw 141 ad (xc ad ci (va_up st j v) ln sv kv cu)) U.heap ∧ va_K (dC, dI) vwCl (xT ci) U)) (va_Ql (fun r9 (u : Unit) => post r9 ) (fun u t => va_P (dC, dI) vwCl (xw 141 ad (xc ad ci (va_up st j v) ln sv kv cu)) t.heap) A) 0 0 A := by
  refine Met.ofW (cc := cX4_leastTick) (maxL := 6) (ret := (some .long)) (by decide) rfl ?_
  intro p e s m args below meth c s₁ B hml hv
  obtain ⟨eargs, hP, hK⟩ := hv
  have C0 : xC p s m args meth c cX4_leastTick 6 (some .long) RX4 wsX4_leastTick (dC, dI) (xT ci) := ⟨B.exec, B.bytes, hml, B.returns, B.notSynchronized, findClass_of_methodNamed B.named, atoms_spec (ws := wsX4_leastTick) B.pre, hK⟩
  obtain ⟨hx, hb, -, hr, hlocks, hown, hts, -⟩ := id C0
  have hS : va_S A s.heap s.heap [] := va_S.rf
  have hl := lv_entry ([.ref (ad (xaS j))]) (n := 6) (Nat.le_of_ble_eq_true rfl)
  have ef : entryFrame m args 6 = entryFrame m ([.ref (ad (xaS j))] : List Value).toArray 6 := by rw [eargs]
  rw [ef, lg_entry_eq]
  generalize (lg_sl ([.ref (ad (xaS j))]) ++ List.replicate (6 - (lg_sl ([.ref (ad (xaS j))])).length) Slot.unset).toArray = ls at hl ⊢
  have hl : lv_has ls 6 [(0, .ref (ad (xaS j)))] := hl
  have hP : va_P (dC, dI) vwCl (xw 141 ad (xc ad ci (va_up st j v) ln sv kv cu)) s.heap := hP
  unfold PX4_leastTick at h
  refine lv_ldc2 (v := (1125899906842624 : Int64)) hx hb hown (hts _ wX4_leastTick_k58) dX4_leastTick_0 ?_
  refine lv_lstore_n (lv' := [(1, .long (1125899906842624 : Int64)), (0, .ref (ad (xaS j)))]) hx hb dX4_leastTick_3 rfl hl (by decide) rfl (fun ls hl => ?_)
  refine lv_iconst (v := (0 : Int32)) hx hb dX4_leastTick_4 (by decide) ?_
  refine lv_istore_n (lv' := [(3, .int (0 : Int32)), (1, .long (1125899906842624 : Int64)), (0, .ref (ad (xaS j)))]) hx hb dX4_leastTick_5 rfl hl (by decide) rfl (fun ls hl => ?_)
  obtain ⟨n_10, h⟩ := h
  exact kX4_leastTick_6 l dC dI ad ci A hAD st v ln sv kv cu j hj    post C0  n_10 (1125899906842624 : Int64) (0 : Int32) _ _ _ h hP hS (lv_sub hl [2, 1, 0] rfl)
abbrev rmX4_setTick : Room := { frames := 1, cells := 0, slots := 0, locals := 40 }
theorem wX4_setTick_k58 : Cond.constantLong RX4 58 (1125899906842624) ∈ wsX4_setTick := by decide +kernel
theorem wX4_setTick_m60 : Cond.methodLink RX4 60 Lib.MathLoose.min_long.x ∈ wsX4_setTick := by decide +kernel
theorem wX4_setTick_m60a : Cond.static Lib.MathLoose.min_long.x ∈ wsX4_setTick := by decide +kernel
theorem wX4_setTick_mth : Cond.initialized "java/lang/Math" ∈ wsX4_setTick := by decide +kernel
theorem wX4_setTick_m60b : Cond.code Lib.MathLoose.min_long.x Lib.MathLoose.min_long.code 4 (some .long) ∈ wsX4_setTick := by decide +kernel
theorem wX4_setTick_c4 : ∀ w ∈ u_ws RX4 TX4 8, w ∈ wsX4_setTick := by decide +kernel
theorem wX4_setTick_f11 : Cond.fieldLink RX4 11 "DueWheels$State" "dues" "[[J" ∈ wsX4_setTick := by decide +kernel
def PX4_setTick  (v : StV) (x1 : Int32) (x2 : Int64) (post : StV → Prop) : Prop :=
  (vp_in x1 200 ∧ (∀ v_2 : StV, v_2 = s_wdu v 2 (x1.toNatClampNeg) (if (1125899906842624 : Int64) < x2 then (1125899906842624 : Int64) else x2) → (vp_in x1 200 ∧ (∀ v_4 : StV, v_4 = s_wdu v_2 11 (x1.toNatClampNeg) (0 : Int64) → post v_4))))
set_option maxHeartbeats 4000000 in
set_option maxRecDepth 100000 in
theorem qX4_setTick (l : Launch) (dC : Nat → ClassId) (dI : Nat → Nat → Nat) (ad : Nat → Nat) (ci : Nat → ClassId) (A : Nat → Prop) (hAD : xw_D 141 ad A) (st : Nat → StV) (v : StV) (ln : Nat → LnV) (sv : SvV) (kv : KvV) (cu : Nat) (j : Nat) (hj : j < 7) (x1 : Int32) (x2 : Int64) (post : StV → Prop) (h : PX4_setTick v x1 x2 post) : Met l yX4_setTick wsX4_setTick rmX4_setTick (va_Pc [.ref (ad (xaS j)), .int x1, .long x2] (fun U => va_P (dC, dI) vwCl (xw 141 ad (xc ad ci (va_up st j v) ln sv kv cu)) U.heap ∧ va_K (dC, dI) vwCl (xT ci) U)) (va_Qv (fun u : StV => post u) (fun u t => va_P (dC, dI) vwCl (xw 141 ad (xc ad ci (va_up st j u) ln sv kv cu)) t.heap) A) 0 0 A := by
  refine Met.ofW (cc := cX4_setTick) (maxL := 4) (ret := none) (by decide) rfl ?_
  intro p e s m args below meth c s₁ B hml hv
  obtain ⟨eargs, hP, hK⟩ := hv
  have C0 : xC p s m args meth c cX4_setTick 4 none RX4 wsX4_setTick (dC, dI) (xT ci) := ⟨B.exec, B.bytes, hml, B.returns, B.notSynchronized, findClass_of_methodNamed B.named, atoms_spec (ws := wsX4_setTick) B.pre, hK⟩
  obtain ⟨hx, hb, -, hr, hlocks, hown, hts, -⟩ := id C0
  have hS : va_S A s.heap s.heap [] := va_S.rf
  have hl := lv_entry ([.ref (ad (xaS j)), .int x1, .long x2]) (n := 4) (Nat.le_of_ble_eq_true rfl)
  have ef : entryFrame m args 4 = entryFrame m ([.ref (ad (xaS j)), .int x1, .long x2] : List Value).toArray 4 := by rw [eargs]
  rw [ef, lg_entry_eq]
  generalize (lg_sl ([.ref (ad (xaS j)), .int x1, .long x2]) ++ List.replicate (4 - (lg_sl ([.ref (ad (xaS j)), .int x1, .long x2])).length) Slot.unset).toArray = ls at hl ⊢
  have hl : lv_has ls 4 [(0, .ref (ad (xaS j))), (1, .int x1), (2, .long x2)] := hl
  have hP : va_P (dC, dI) vwCl (xw 141 ad (xc ad ci (va_up st j v) ln sv kv cu)) s.heap := hP
  unfold PX4_setTick at h
  refine lv_aload_n hx hb dX4_setTick_0 rfl (lv_at hl 0 rfl) ?_
  refine xr_get (D := (dC, dI)) (C := RX4) (T := TX4) (N := 8) (v := .ref (ad (xaD0 j))) hx hb hts wX4_setTick_c4 hown hK hP (xaS j) (xq_S hj) (xe_S (va_up_self _ _ _)) rfl 6 (by decide) wX4_setTick_f11 rfl rfl dX4_setTick_1 ?_
  refine lv_iconst (v := (2 : Int32)) hx hb dX4_setTick_4 (by decide) ?_
  refine xr_aald (k := 2) (b := ad (xaD j 2)) hx hb hK hP (xaD0 j) 4 (xq_D0 hj) xe_D0 rfl rfl rfl (x_in _ _ (by decide)) rfl dX4_setTick_5 ?_
  refine lv_iload_n hx hb dX4_setTick_6 rfl (lv_at hl 1 rfl) ?_
  refine lv_lload_n hx hb dX4_setTick_7 rfl (lv_at hl 2 rfl) ?_
  refine lv_ldc2 (v := (1125899906842624 : Int64)) hx hb hown (hts _ wX4_setTick_k58) dX4_setTick_8 ?_
  refine va_mmin_long hx hb (by rw [C0.2.2.1]; exact hl.1.symm) hown (hts _ wX4_setTick_m60) (hts _ wX4_setTick_m60a) (hts _ wX4_setTick_mth) (hts _ wX4_setTick_m60b) (Nat.le_of_ble_eq_true rfl) (Nat.le_of_ble_eq_true rfl) (Nat.zero_le _) (Nat.zero_le _) dX4_setTick_11 ?_
  obtain ⟨g_1, h⟩ := h
  obtain ⟨v_2, ev_2⟩ : ∃ z : StV, z = s_wdu v 2 (x1.toNatClampNeg) (if (1125899906842624 : Int64) < x2 then (1125899906842624 : Int64) else x2) := ⟨_, rfl⟩
  have h := h v_2 ev_2
  refine xr_last (k := x1.toNatClampNeg) (x := (if (1125899906842624 : Int64) < x2 then (1125899906842624 : Int64) else x2)) (g := (xc ad ci (va_up st j v_2) ln sv kv cu)) hx hb hK hP hAD hS (xaD j 2) 1 (xq_D hj (by decide)) (xe_D (by decide) (va_up_self _ _ _)) rfl rfl g_1 dX4_setTick_14 (xg_du (by decide) (va_up_self _ _ _) (by rw [ev_2]; exact bx_uu _ _ _ _)) (fun H locs hP hS => ?_)
  refine lv_aload_n hx hb dX4_setTick_15 rfl (lv_at hl 0 rfl) ?_
  refine xr_get (D := (dC, dI)) (C := RX4) (T := TX4) (N := 8) (v := .ref (ad (xaD0 j))) hx hb hts wX4_setTick_c4 hown hK hP (xaS j) (xq_S hj) (xe_S (va_up_self _ _ _)) rfl 6 (by decide) wX4_setTick_f11 rfl rfl dX4_setTick_16 ?_
  refine lv_bipush (v := (11 : Int32)) hx hb dX4_setTick_19 (by decide) ?_
  refine xr_aald (k := 11) (b := ad (xaD j 11)) hx hb hK hP (xaD0 j) 4 (xq_D0 hj) xe_D0 rfl rfl rfl (x_in _ _ (by decide)) rfl dX4_setTick_21 ?_
  refine lv_iload_n hx hb dX4_setTick_22 rfl (lv_at hl 1 rfl) ?_
  refine lv_lconst (v := (0 : Int64)) hx hb dX4_setTick_23 (by decide) ?_
  obtain ⟨g_3, h⟩ := h
  obtain ⟨v_4, ev_4⟩ : ∃ z : StV, z = s_wdu v_2 11 (x1.toNatClampNeg) (0 : Int64) := ⟨_, rfl⟩
  have h := h v_4 ev_4
  refine xr_last (k := x1.toNatClampNeg) (x := (0 : Int64)) (g := (xc ad ci (va_up st j v_4) ln sv kv cu)) hx hb hK hP hAD hS (xaD j 11) 1 (xq_D hj (by decide)) (xe_D (by decide) (va_up_self _ _ _)) rfl rfl g_3 dX4_setTick_24 (xg_du (by decide) (va_up_self _ _ _) (by rw [ev_4]; exact bx_uu _ _ _ _)) (fun H locs hP hS => ?_)
  exact W.vret hx hb hr (fun t ht hW => ⟨⟨v_4, rfl, h, x_ht ht hP⟩, hS.F ht⟩) hS.2.2 dX4_setTick_25
abbrev rmX4_tellGone : Room := { frames := 2, cells := 0, slots := 0, locals := 63 }
theorem wX4_tellGone_k45 : Cond.constantLong RX4 45 (-2000000005) ∈ wsX4_tellGone := by decide +kernel
theorem wX4_tellGone_c4 : ∀ w ∈ u_ws RX4 TX4 8, w ∈ wsX4_tellGone := by decide +kernel
theorem wX4_tellGone_f11 : Cond.fieldLink RX4 11 "DueWheels$State" "dues" "[[J" ∈ wsX4_tellGone := by decide +kernel
theorem wX4_tellGone_f19 : Cond.fieldLink RX4 19 "DueWheels$State" "time" "J" ∈ wsX4_tellGone := by decide +kernel
theorem wX4_tellGone_f32 : Cond.fieldLink RX4 32 "DueWheels$State" "end" "I" ∈ wsX4_tellGone := by decide +kernel
def LX4_tellGone_2   (x1 : Int32)  (post : StV → Prop) : Nat → Int32 → StV → Prop
  | 0, _, _ => False
  | n + 1, x2, v => (((s_en v) ≤ x2 → post v) ∧ (¬ (s_en v) ≤ x2 → (vp_in x2 200 ∧ (((s_du v 6 (x2.toNatClampNeg)) = (x1.toInt64) → (vp_in x2 200 ∧ (∀ v_6 : StV, v_6 = s_wdu v 6 (x2.toNatClampNeg) (-2000000005 : Int64) → (vp_in x2 200 ∧ (PX4_setTick v_6 x2 ((s_tm v_6) + (s_du v_6 9 (x2.toNatClampNeg))) (fun (v_8 : StV) => ∀ x2_9 : Int32, x2_9 = x2 + 1 → LX4_tellGone_2  x1 post n x2_9 v_8)))))) ∧ (¬ (s_du v 6 (x2.toNatClampNeg)) = (x1.toInt64) → ∀ x2_4 : Int32, x2_4 = x2 + 1 → LX4_tellGone_2  x1 post n x2_4 v)))))
set_option maxHeartbeats 4000000 in
set_option maxRecDepth 100000 in
theorem kX4_tellGone_2 {p : Program} {e : Env} {s : State} {m : MethodId} {args : Array Value} {below : List Frame} {meth : Method} {c : Code} (l : Launch) (dC : Nat → ClassId) (dI : Nat → Nat → Nat) (ad : Nat → Nat) (ci : Nat → ClassId) (A : Nat → Prop) (hAD : xw_D 141 ad A) (st : Nat → StV) (ln : Nat → LnV) (sv : SvV) (kv : KvV) (cu : Nat) (j : Nat) (hj : j < 7) (x1 : Int32)  (post : StV → Prop) (C0 : xC p s m args meth c cX4_tellGone 3 none RX4 wsX4_tellGone (dC, dI) (xT ci)) : ∀ (n : Nat) (x2 : Int32) (v : StV) (H : Heap) (locs : List Loc) (ls : Array Slot), LX4_tellGone_2  x1 post n x2 v → va_P (dC, dI) vwCl (xw 141 ad (xc ad ci (va_up st j v) ln sv kv cu)) H → va_S A s.heap H locs → lv_has ls 3 [(0, .ref (ad (xaS j))), (1, .int x1), (2, .int x2)] → W p l e rmX4_tellGone s m args below meth c H locs 0 0 (MQ below (va_Qv (fun u : StV => post u) (fun u t => va_P (dC, dI) vwCl (xw 141 ad (xc ad ci (va_up st j u) ln sv kv cu)) t.heap) A) args s 0 0 A) (F0 m 2 ls []) := by
  obtain ⟨hx, hb, -, hr, hlocks, hown, hts, hK⟩ := id C0
  intro n
  induction n with
  | zero =>
    intro x2 v H locs ls h
    exact False.elim h
  | succ n ih =>
    intro x2 v H locs ls h hP hS hl
    rw [LX4_tellGone_2] at h
    refine lv_iload_n hx hb dX4_tellGone_2 rfl (lv_at hl 2 rfl) ?_
    refine lv_aload_n hx hb dX4_tellGone_3 rfl (lv_at hl 0 rfl) ?_
    refine xr_get (D := (dC, dI)) (C := RX4) (T := TX4) (N := 8) (v := .int (s_en v)) hx hb hts wX4_tellGone_c4 hown hK hP (xaS j) (xq_S hj) (xe_S (va_up_self _ _ _)) rfl 4 (by decide) wX4_tellGone_f32 rfl rfl dX4_tellGone_4 ?_
    refine lv_icmp_ge (tgt := 62) hx hb dX4_tellGone_7 (by decide) (fun c_1 => ?_) (fun c_1 => ?_)
    · have h := h.1 c_1
      exact W.vret hx hb hr (fun t ht hW => ⟨⟨v, rfl, h, x_ht ht hP⟩, hS.F ht⟩) hS.2.2 dX4_tellGone_62
    · have h := h.2 c_1
      refine lv_aload_n hx hb dX4_tellGone_10 rfl (lv_at hl 0 rfl) ?_
      refine xr_get (D := (dC, dI)) (C := RX4) (T := TX4) (N := 8) (v := .ref (ad (xaD0 j))) hx hb hts wX4_tellGone_c4 hown hK hP (xaS j) (xq_S hj) (xe_S (va_up_self _ _ _)) rfl 6 (by decide) wX4_tellGone_f11 rfl rfl dX4_tellGone_11 ?_
      refine lv_bipush (v := (6 : Int32)) hx hb dX4_tellGone_14 (by decide) ?_
      refine xr_aald (k := 6) (b := ad (xaD j 6)) hx hb hK hP (xaD0 j) 4 (xq_D0 hj) xe_D0 rfl rfl rfl (x_in _ _ (by decide)) rfl dX4_tellGone_16 ?_
      refine lv_iload_n hx hb dX4_tellGone_17 rfl (lv_at hl 2 rfl) ?_
      obtain ⟨g_2, h⟩ := h
      refine xr_lald (k := x2.toNatClampNeg) hx hb hK hP (xaD j 6) 1 (xq_D hj (by decide)) (xe_D (by decide) (va_up_self _ _ _)) rfl rfl g_2 dX4_tellGone_18 ?_
      refine lv_iload_n hx hb dX4_tellGone_19 rfl (lv_at hl 1 rfl) ?_
      refine lv_i2l hx hb dX4_tellGone_20 rfl ?_
      refine xr_if_lcmp_ne (tgt := 56) hx hb dX4_tellGone_21 dX4_tellGone_22 (by decide) (fun c_3 => ?_) (fun c_3 => ?_)
      · have h := h.2 c_3
        obtain ⟨x2_4, ex2_4⟩ : ∃ z : Int32, z = x2 + 1 := ⟨_, rfl⟩
        have h := h x2_4 ex2_4
        refine lv_iinc (v := x2_4) (lv' := [(2, .int x2_4), (0, .ref (ad (xaS j))), (1, .int x1)]) hx hb dX4_tellGone_56 hl (k := 2) rfl (by rw [ex2_4]; rfl) (by decide) rfl (fun ls hl => ?_)
        refine lv_goto (tgt := 2) hx hb dX4_tellGone_59 (by decide) ?_
        exact ih x2_4 v _ _ _ h hP hS (lv_sub hl [1, 2, 0] rfl)
      · have h := h.1 c_3
        refine lv_aload_n hx hb dX4_tellGone_25 rfl (lv_at hl 0 rfl) ?_
        refine xr_get (D := (dC, dI)) (C := RX4) (T := TX4) (N := 8) (v := .ref (ad (xaD0 j))) hx hb hts wX4_tellGone_c4 hown hK hP (xaS j) (xq_S hj) (xe_S (va_up_self _ _ _)) rfl 6 (by decide) wX4_tellGone_f11 rfl rfl dX4_tellGone_26 ?_
        refine lv_bipush (v := (6 : Int32)) hx hb dX4_tellGone_29 (by decide) ?_
        refine xr_aald (k := 6) (b := ad (xaD j 6)) hx hb hK hP (xaD0 j) 4 (xq_D0 hj) xe_D0 rfl rfl rfl (x_in _ _ (by decide)) rfl dX4_tellGone_31 ?_
        refine lv_iload_n hx hb dX4_tellGone_32 rfl (lv_at hl 2 rfl) ?_
        refine lv_ldc2 (v := (-2000000005 : Int64)) hx hb hown (hts _ wX4_tellGone_k45) dX4_tellGone_33 ?_
        obtain ⟨g_5, h⟩ := h
        obtain ⟨v_6, ev_6⟩ : ∃ z : StV, z = s_wdu v 6 (x2.toNatClampNeg) (-2000000005 : Int64) := ⟨_, rfl⟩
        have h := h v_6 ev_6
        refine xr_last (k := x2.toNatClampNeg) (x := (-2000000005 : Int64)) (g := (xc ad ci (va_up st j v_6) ln sv kv cu)) hx hb hK hP hAD hS (xaD j 6) 1 (xq_D hj (by decide)) (xe_D (by decide) (va_up_self _ _ _)) rfl rfl g_5 dX4_tellGone_36 (xg_du (by decide) (va_up_self _ _ _) (by rw [ev_6]; exact bx_uu _ _ _ _)) (fun H locs hP hS => ?_)
        refine lv_aload_n hx hb dX4_tellGone_37 rfl (lv_at hl 0 rfl) ?_
        refine lv_iload_n hx hb dX4_tellGone_38 rfl (lv_at hl 2 rfl) ?_
        refine lv_aload_n hx hb dX4_tellGone_39 rfl (lv_at hl 0 rfl) ?_
        refine xr_get (D := (dC, dI)) (C := RX4) (T := TX4) (N := 8) (v := .long (s_tm v_6)) hx hb hts wX4_tellGone_c4 hown hK hP (xaS j) (xq_S hj) (xe_S (va_up_self _ _ _)) rfl 0 (by decide) wX4_tellGone_f19 rfl rfl dX4_tellGone_40 ?_
        refine lv_aload_n hx hb dX4_tellGone_43 rfl (lv_at hl 0 rfl) ?_
        refine xr_get (D := (dC, dI)) (C := RX4) (T := TX4) (N := 8) (v := .ref (ad (xaD0 j))) hx hb hts wX4_tellGone_c4 hown hK hP (xaS j) (xq_S hj) (xe_S (va_up_self _ _ _)) rfl 6 (by decide) wX4_tellGone_f11 rfl rfl dX4_tellGone_44 ?_
        refine lv_bipush (v := (9 : Int32)) hx hb dX4_tellGone_47 (by decide) ?_
        refine xr_aald (k := 9) (b := ad (xaD j 9)) hx hb hK hP (xaD0 j) 4 (xq_D0 hj) xe_D0 rfl rfl rfl (x_in _ _ (by decide)) rfl dX4_tellGone_49 ?_
        refine lv_iload_n hx hb dX4_tellGone_50 rfl (lv_at hl 2 rfl) ?_
        obtain ⟨g_7, h⟩ := h
        refine xr_lald (k := x2.toNatClampNeg) hx hb hK hP (xaD j 9) 1 (xq_D hj (by decide)) (xe_D (by decide) (va_up_self _ _ _)) rfl rfl g_7 dX4_tellGone_51 ?_
        refine lv_ladd hx hb dX4_tellGone_52 ?_
        refine va_callv (va_runV (As := [.int x2, .long ((s_tm v_6) + (s_du v_6 9 (x2.toNatClampNeg)))]) (rest := []) ⟨hx, hb, C0.2.2.1, hown, hts⟩ (qX4_setTick l dC dI ad ci A hAD st v_6 ln sv kv cu j hj x2 ((s_tm v_6) + (s_du v_6 9 (x2.toNatClampNeg))) _ h) (cwV 2 hts gX4_tellGone_X4_setTick rfl rfl rfl (by decide +kernel) ⟨Nat.le_of_ble_eq_true rfl, Nat.le_of_ble_eq_true rfl⟩) ⟨xr_blind, xr_recv (r := (RX4, TX4, 8)) hK hP (xaS j) (xq_S hj) (xe_S (va_up_self _ _ _)) rfl, xr_pre hP hK⟩ rfl rfl hl.1 rfl (lv_room (Nat.le_of_ble_eq_true rfl)) dX4_tellGone_53 ⟨Nat.zero_le _, Nat.zero_le _⟩) hS (fun _ _ h => h) (fun _ h => h) (fun v_8 t9 H locs ht hvm h hB _ _ hS => ?_)
        refine W.cs (cells' := 0) (slots' := 0) rfl rfl ?_
        have hP := x_th ht hB
        have hP : va_P (dC, dI) vwCl (xw 141 ad (xc ad ci (va_up st j v_8) ln sv kv cu)) H := hP
        obtain ⟨x2_9, ex2_9⟩ : ∃ z : Int32, z = x2 + 1 := ⟨_, rfl⟩
        have h := h x2_9 ex2_9
        refine lv_iinc (v := x2_9) (lv' := [(2, .int x2_9), (0, .ref (ad (xaS j))), (1, .int x1)]) hx hb dX4_tellGone_56 hl (k := 2) rfl (by rw [ex2_9]; rfl) (by decide) rfl (fun ls hl => ?_)
        refine lv_goto (tgt := 2) hx hb dX4_tellGone_59 (by decide) ?_
        exact ih x2_9 v_8 _ _ _ h hP hS (lv_sub hl [1, 2, 0] rfl)
def PX4_tellGone  (v : StV) (x1 : Int32) (post : StV → Prop) : Prop :=
  (∃ n_10 : Nat, LX4_tellGone_2  x1  post n_10 (0 : Int32) v)
set_option maxHeartbeats 4000000 in
set_option maxRecDepth 100000 in
theorem qX4_tellGone (l : Launch) (dC : Nat → ClassId) (dI : Nat → Nat → Nat) (ad : Nat → Nat) (ci : Nat → ClassId) (A : Nat → Prop) (hAD : xw_D 141 ad A) (st : Nat → StV) (v : StV) (ln : Nat → LnV) (sv : SvV) (kv : KvV) (cu : Nat) (j : Nat) (hj : j < 7) (x1 : Int32) (post : StV → Prop) (h : PX4_tellGone v x1 post) : Met l yX4_tellGone wsX4_tellGone rmX4_tellGone (va_Pc [.ref (ad (xaS j)), .int x1] (fun U => va_P (dC, dI) vwCl (xw 141 ad (xc ad ci (va_up st j v) ln sv kv cu)) U.heap ∧ va_K (dC, dI) vwCl (xT ci) U)) (va_Qv (fun u : StV => post u) (fun u t => va_P (dC, dI) vwCl (xw 141 ad (xc ad ci (va_up st j u) ln sv kv cu)) t.heap) A) 0 0 A := by
  refine Met.ofW (cc := cX4_tellGone) (maxL := 3) (ret := none) (by decide) rfl ?_
  intro p e s m args below meth c s₁ B hml hv
  obtain ⟨eargs, hP, hK⟩ := hv
  have C0 : xC p s m args meth c cX4_tellGone 3 none RX4 wsX4_tellGone (dC, dI) (xT ci) := ⟨B.exec, B.bytes, hml, B.returns, B.notSynchronized, findClass_of_methodNamed B.named, atoms_spec (ws := wsX4_tellGone) B.pre, hK⟩
  obtain ⟨hx, hb, -, hr, hlocks, hown, hts, -⟩ := id C0
  have hS : va_S A s.heap s.heap [] := va_S.rf
  have hl := lv_entry ([.ref (ad (xaS j)), .int x1]) (n := 3) (Nat.le_of_ble_eq_true rfl)
  have ef : entryFrame m args 3 = entryFrame m ([.ref (ad (xaS j)), .int x1] : List Value).toArray 3 := by rw [eargs]
  rw [ef, lg_entry_eq]
  generalize (lg_sl ([.ref (ad (xaS j)), .int x1]) ++ List.replicate (3 - (lg_sl ([.ref (ad (xaS j)), .int x1])).length) Slot.unset).toArray = ls at hl ⊢
  have hl : lv_has ls 3 [(0, .ref (ad (xaS j))), (1, .int x1)] := hl
  have hP : va_P (dC, dI) vwCl (xw 141 ad (xc ad ci (va_up st j v) ln sv kv cu)) s.heap := hP
  unfold PX4_tellGone at h
  refine lv_iconst (v := (0 : Int32)) hx hb dX4_tellGone_0 (by decide) ?_
  refine lv_istore_n (lv' := [(2, .int (0 : Int32)), (0, .ref (ad (xaS j))), (1, .int x1)]) hx hb dX4_tellGone_1 rfl hl (by decide) rfl (fun ls hl => ?_)
  obtain ⟨n_10, h⟩ := h
  exact kX4_tellGone_2 l dC dI ad ci A hAD st ln sv kv cu j hj  x1  post C0  n_10 (0 : Int32) v _ _ _ h hP hS (lv_sub hl [1, 2, 0] rfl)
abbrev rmX4_clear : Room := { frames := 0, cells := 0, slots := 0, locals := 0 }
theorem wX4_clear_c4 : ∀ w ∈ u_ws RX4 TX4 8, w ∈ wsX4_clear := by decide +kernel
theorem wX4_clear_f11 : Cond.fieldLink RX4 11 "DueWheels$State" "dues" "[[J" ∈ wsX4_clear := by decide +kernel
theorem wX4_clear_k45 : Cond.constantLong RX4 45 (-2000000005) ∈ wsX4_clear := by decide +kernel
def LX4_clear_2   (x1 : Int32)  (post : StV → Prop) : Nat → Int32 → StV → Prop
  | 0, _, _ => False
  | n + 1, x2, v => (((12 : Int32) ≤ x2 → (vp_in x1 200 ∧ (∀ v_3 : StV, v_3 = s_wdu v 11 (x1.toNatClampNeg) (0 : Int64) → post v_3))) ∧ (¬ (12 : Int32) ≤ x2 → (vp_in x2 12 ∧ (vp_in x1 200 ∧ (∀ v_6 : StV, v_6 = s_wdu v x2.toNatClampNeg (x1.toNatClampNeg) (-2000000005 : Int64) → ∀ x2_7 : Int32, x2_7 = x2 + 1 → LX4_clear_2  x1 post n x2_7 v_6)))))
set_option maxHeartbeats 4000000 in
set_option maxRecDepth 100000 in
theorem kX4_clear_2 {p : Program} {e : Env} {s : State} {m : MethodId} {args : Array Value} {below : List Frame} {meth : Method} {c : Code} (l : Launch) (dC : Nat → ClassId) (dI : Nat → Nat → Nat) (ad : Nat → Nat) (ci : Nat → ClassId) (A : Nat → Prop) (hAD : xw_D 141 ad A) (st : Nat → StV) (ln : Nat → LnV) (sv : SvV) (kv : KvV) (cu : Nat) (j : Nat) (hj : j < 7) (x1 : Int32)  (post : StV → Prop) (C0 : xC p s m args meth c cX4_clear 3 none RX4 wsX4_clear (dC, dI) (xT ci)) : ∀ (n : Nat) (x2 : Int32) (v : StV) (H : Heap) (locs : List Loc) (ls : Array Slot), LX4_clear_2  x1 post n x2 v → va_P (dC, dI) vwCl (xw 141 ad (xc ad ci (va_up st j v) ln sv kv cu)) H → va_S A s.heap H locs → lv_has ls 3 [(0, .ref (ad (xaS j))), (1, .int x1), (2, .int x2)] → W p l e rmX4_clear s m args below meth c H locs 0 0 (MQ below (va_Qv (fun u : StV => post u) (fun u t => va_P (dC, dI) vwCl (xw 141 ad (xc ad ci (va_up st j u) ln sv kv cu)) t.heap) A) args s 0 0 A) (F0 m 2 ls []) := by
  obtain ⟨hx, hb, -, hr, hlocks, hown, hts, hK⟩ := id C0
  intro n
  induction n with
  | zero =>
    intro x2 v H locs ls h
    exact False.elim h
  | succ n ih =>
    intro x2 v H locs ls h hP hS hl
    rw [LX4_clear_2] at h
    refine lv_iload_n hx hb dX4_clear_2 rfl (lv_at hl 2 rfl) ?_
    refine lv_bipush (v := (12 : Int32)) hx hb dX4_clear_3 (by decide) ?_
    refine lv_icmp_ge (tgt := 25) hx hb dX4_clear_5 (by decide) (fun c_1 => ?_) (fun c_1 => ?_)
    · have h := h.1 c_1
      refine lv_aload_n hx hb dX4_clear_25 rfl (lv_at hl 0 rfl) ?_
      refine xr_get (D := (dC, dI)) (C := RX4) (T := TX4) (N := 8) (v := .ref (ad (xaD0 j))) hx hb hts wX4_clear_c4 hown hK hP (xaS j) (xq_S hj) (xe_S (va_up_self _ _ _)) rfl 6 (by decide) wX4_clear_f11 rfl rfl dX4_clear_26 ?_
      refine lv_bipush (v := (11 : Int32)) hx hb dX4_clear_29 (by decide) ?_
      refine xr_aald (k := 11) (b := ad (xaD j 11)) hx hb hK hP (xaD0 j) 4 (xq_D0 hj) xe_D0 rfl rfl rfl (x_in _ _ (by decide)) rfl dX4_clear_31 ?_
      refine lv_iload_n hx hb dX4_clear_32 rfl (lv_at hl 1 rfl) ?_
      refine lv_lconst (v := (0 : Int64)) hx hb dX4_clear_33 (by decide) ?_
      obtain ⟨g_2, h⟩ := h
      obtain ⟨v_3, ev_3⟩ : ∃ z : StV, z = s_wdu v 11 (x1.toNatClampNeg) (0 : Int64) := ⟨_, rfl⟩
      have h := h v_3 ev_3
      refine xr_last (k := x1.toNatClampNeg) (x := (0 : Int64)) (g := (xc ad ci (va_up st j v_3) ln sv kv cu)) hx hb hK hP hAD hS (xaD j 11) 1 (xq_D hj (by decide)) (xe_D (by decide) (va_up_self _ _ _)) rfl rfl g_2 dX4_clear_34 (xg_du (by decide) (va_up_self _ _ _) (by rw [ev_3]; exact bx_uu _ _ _ _)) (fun H locs hP hS => ?_)
      exact W.vret hx hb hr (fun t ht hW => ⟨⟨v_3, rfl, h, x_ht ht hP⟩, hS.F ht⟩) hS.2.2 dX4_clear_35
    · have h := h.2 c_1
      refine lv_aload_n hx hb dX4_clear_8 rfl (lv_at hl 0 rfl) ?_
      refine xr_get (D := (dC, dI)) (C := RX4) (T := TX4) (N := 8) (v := .ref (ad (xaD0 j))) hx hb hts wX4_clear_c4 hown hK hP (xaS j) (xq_S hj) (xe_S (va_up_self _ _ _)) rfl 6 (by decide) wX4_clear_f11 rfl rfl dX4_clear_9 ?_
      refine lv_iload_n hx hb dX4_clear_12 rfl (lv_at hl 2 rfl) ?_
      obtain ⟨g_4, h⟩ := h
      refine xr_aald (k := x2.toNatClampNeg) (b := ad (xaD j x2.toNatClampNeg)) hx hb hK hP (xaD0 j) 4 (xq_D0 hj) xe_D0 rfl rfl rfl g_4 rfl dX4_clear_13 ?_
      refine lv_iload_n hx hb dX4_clear_14 rfl (lv_at hl 1 rfl) ?_
      refine lv_ldc2 (v := (-2000000005 : Int64)) hx hb hown (hts _ wX4_clear_k45) dX4_clear_15 ?_
      obtain ⟨g_5, h⟩ := h
      obtain ⟨v_6, ev_6⟩ : ∃ z : StV, z = s_wdu v x2.toNatClampNeg (x1.toNatClampNeg) (-2000000005 : Int64) := ⟨_, rfl⟩
      have h := h v_6 ev_6
      refine xr_last (k := x1.toNatClampNeg) (x := (-2000000005 : Int64)) (g := (xc ad ci (va_up st j v_6) ln sv kv cu)) hx hb hK hP hAD hS (xaD j x2.toNatClampNeg) 1 (xq_D hj (x_lt g_4)) (xe_D (x_lt g_4) (va_up_self _ _ _)) rfl rfl g_5 dX4_clear_18 (xg_du (x_lt g_4) (va_up_self _ _ _) (by rw [ev_6]; exact bx_uu _ _ _ _)) (fun H locs hP hS => ?_)
      obtain ⟨x2_7, ex2_7⟩ : ∃ z : Int32, z = x2 + 1 := ⟨_, rfl⟩
      have h := h x2_7 ex2_7
      refine lv_iinc (v := x2_7) (lv' := [(2, .int x2_7), (0, .ref (ad (xaS j))), (1, .int x1)]) hx hb dX4_clear_19 hl (k := 2) rfl (by rw [ex2_7]; rfl) (by decide) rfl (fun ls hl => ?_)
      refine lv_goto (tgt := 2) hx hb dX4_clear_22 (by decide) ?_
      exact ih x2_7 v_6 _ _ _ h hP hS (lv_sub hl [1, 2, 0] rfl)
def PX4_clear  (v : StV) (x1 : Int32) (post : StV → Prop) : Prop :=
  (∃ n_8 : Nat, LX4_clear_2  x1  post n_8 (0 : Int32) v)
set_option maxHeartbeats 4000000 in
set_option maxRecDepth 100000 in
theorem qX4_clear (l : Launch) (dC : Nat → ClassId) (dI : Nat → Nat → Nat) (ad : Nat → Nat) (ci : Nat → ClassId) (A : Nat → Prop) (hAD : xw_D 141 ad A) (st : Nat → StV) (v : StV) (ln : Nat → LnV) (sv : SvV) (kv : KvV) (cu : Nat) (j : Nat) (hj : j < 7) (x1 : Int32) (post : StV → Prop) (h : PX4_clear v x1 post) : Met l yX4_clear wsX4_clear rmX4_clear (va_Pc [.ref (ad (xaS j)), .int x1] (fun U => va_P (dC, dI) vwCl (xw 141 ad (xc ad ci (va_up st j v) ln sv kv cu)) U.heap ∧ va_K (dC, dI) vwCl (xT ci) U)) (va_Qv (fun u : StV => post u) (fun u t => va_P (dC, dI) vwCl (xw 141 ad (xc ad ci (va_up st j u) ln sv kv cu)) t.heap) A) 0 0 A := by
  refine Met.ofW (cc := cX4_clear) (maxL := 3) (ret := none) (by decide) rfl ?_
  intro p e s m args below meth c s₁ B hml hv
  obtain ⟨eargs, hP, hK⟩ := hv
  have C0 : xC p s m args meth c cX4_clear 3 none RX4 wsX4_clear (dC, dI) (xT ci) := ⟨B.exec, B.bytes, hml, B.returns, B.notSynchronized, findClass_of_methodNamed B.named, atoms_spec (ws := wsX4_clear) B.pre, hK⟩
  obtain ⟨hx, hb, -, hr, hlocks, hown, hts, -⟩ := id C0
  have hS : va_S A s.heap s.heap [] := va_S.rf
  have hl := lv_entry ([.ref (ad (xaS j)), .int x1]) (n := 3) (Nat.le_of_ble_eq_true rfl)
  have ef : entryFrame m args 3 = entryFrame m ([.ref (ad (xaS j)), .int x1] : List Value).toArray 3 := by rw [eargs]
  rw [ef, lg_entry_eq]
  generalize (lg_sl ([.ref (ad (xaS j)), .int x1]) ++ List.replicate (3 - (lg_sl ([.ref (ad (xaS j)), .int x1])).length) Slot.unset).toArray = ls at hl ⊢
  have hl : lv_has ls 3 [(0, .ref (ad (xaS j))), (1, .int x1)] := hl
  have hP : va_P (dC, dI) vwCl (xw 141 ad (xc ad ci (va_up st j v) ln sv kv cu)) s.heap := hP
  unfold PX4_clear at h
  refine lv_iconst (v := (0 : Int32)) hx hb dX4_clear_0 (by decide) ?_
  refine lv_istore_n (lv' := [(2, .int (0 : Int32)), (0, .ref (ad (xaS j))), (1, .int x1)]) hx hb dX4_clear_1 rfl hl (by decide) rfl (fun ls hl => ?_)
  obtain ⟨n_8, h⟩ := h
  exact kX4_clear_2 l dC dI ad ci A hAD st ln sv kv cu j hj  x1  post C0  n_8 (0 : Int32) v _ _ _ h hP hS (lv_sub hl [1, 2, 0] rfl)
abbrev rmX4_close : Room := { frames := 1, cells := 0, slots := 0, locals := 22 }
theorem wX4_close_k45 : Cond.constantLong RX4 45 (-2000000005) ∈ wsX4_close := by decide +kernel
theorem wX4_close_c4 : ∀ w ∈ u_ws RX4 TX4 8, w ∈ wsX4_close := by decide +kernel
theorem wX4_close_f32 : Cond.fieldLink RX4 32 "DueWheels$State" "end" "I" ∈ wsX4_close := by decide +kernel
theorem wX4_close_f11 : Cond.fieldLink RX4 11 "DueWheels$State" "dues" "[[J" ∈ wsX4_close := by decide +kernel
def LX4_close_12     (post : StV → Prop) : Nat → Int32 → StV → Prop
  | 0, _, _ => False
  | n + 1, x2, v => ((x2 < 0 → post v) ∧ (¬ x2 < 0 → (vp_in x2 200 ∧ (((s_du v 0 (x2.toNatClampNeg)) = (-2000000005 : Int64) → ∀ v_6 : StV, v_6 = s_wen v x2 → ∀ x2_7 : Int32, x2_7 = x2 + (-1) → LX4_close_12  post n x2_7 v_6) ∧ (¬ (s_du v 0 (x2.toNatClampNeg)) = (-2000000005 : Int64) → post v)))))
set_option maxHeartbeats 4000000 in
set_option maxRecDepth 100000 in
theorem kX4_close_12 {p : Program} {e : Env} {s : State} {m : MethodId} {args : Array Value} {below : List Frame} {meth : Method} {c : Code} (l : Launch) (dC : Nat → ClassId) (dI : Nat → Nat → Nat) (ad : Nat → Nat) (ci : Nat → ClassId) (A : Nat → Prop) (hAD : xw_D 141 ad A) (st : Nat → StV) (ln : Nat → LnV) (sv : SvV) (kv : KvV) (cu : Nat) (j : Nat) (hj : j < 7)   (post : StV → Prop) (C0 : xC p s m args meth c cX4_close 3 none RX4 wsX4_close (dC, dI) (xT ci)) : ∀ (n : Nat) (x2 : Int32) (v : StV) (H : Heap) (locs : List Loc) (ls : Array Slot), LX4_close_12  post n x2 v → va_P (dC, dI) vwCl (xw 141 ad (xc ad ci (va_up st j v) ln sv kv cu)) H → va_S A s.heap H locs → lv_has ls 3 [(0, .ref (ad (xaS j))), (2, .int x2)] → W p l e rmX4_close s m args below meth c H locs 0 0 (MQ below (va_Qv (fun u : StV => post u) (fun u t => va_P (dC, dI) vwCl (xw 141 ad (xc ad ci (va_up st j u) ln sv kv cu)) t.heap) A) args s 0 0 A) (F0 m 12 ls []) := by
  obtain ⟨hx, hb, -, hr, hlocks, hown, hts, hK⟩ := id C0
  intro n
  induction n with
  | zero =>
    intro x2 v H locs ls h
    exact False.elim h
  | succ n ih =>
    intro x2 v H locs ls h hP hS hl
    rw [LX4_close_12] at h
    refine lv_iload_n hx hb dX4_close_12 rfl (lv_at hl 1 rfl) ?_
    refine lv_if_lt (tgt := 42) hx hb dX4_close_13 (by decide) (fun c_3 => ?_) (fun c_3 => ?_)
    · have h := h.1 c_3
      exact W.vret hx hb hr (fun t ht hW => ⟨⟨v, rfl, h, x_ht ht hP⟩, hS.F ht⟩) hS.2.2 dX4_close_42
    · have h := h.2 c_3
      refine lv_aload_n hx hb dX4_close_16 rfl (lv_at hl 0 rfl) ?_
      refine xr_get (D := (dC, dI)) (C := RX4) (T := TX4) (N := 8) (v := .ref (ad (xaD0 j))) hx hb hts wX4_close_c4 hown hK hP (xaS j) (xq_S hj) (xe_S (va_up_self _ _ _)) rfl 6 (by decide) wX4_close_f11 rfl rfl dX4_close_17 ?_
      refine lv_iconst (v := (0 : Int32)) hx hb dX4_close_20 (by decide) ?_
      refine xr_aald (k := 0) (b := ad (xaD j 0)) hx hb hK hP (xaD0 j) 4 (xq_D0 hj) xe_D0 rfl rfl rfl (x_in _ _ (by decide)) rfl dX4_close_21 ?_
      refine lv_iload_n hx hb dX4_close_22 rfl (lv_at hl 1 rfl) ?_
      obtain ⟨g_4, h⟩ := h
      refine xr_lald (k := x2.toNatClampNeg) hx hb hK hP (xaD j 0) 1 (xq_D hj (by decide)) (xe_D (by decide) (va_up_self _ _ _)) rfl rfl g_4 dX4_close_23 ?_
      refine lv_ldc2 (v := (-2000000005 : Int64)) hx hb hown (hts _ wX4_close_k45) dX4_close_24 ?_
      refine xr_if_lcmp_ne (tgt := 42) hx hb dX4_close_27 dX4_close_28 (by decide) (fun c_5 => ?_) (fun c_5 => ?_)
      · have h := h.2 c_5
        exact W.vret hx hb hr (fun t ht hW => ⟨⟨v, rfl, h, x_ht ht hP⟩, hS.F ht⟩) hS.2.2 dX4_close_42
      · have h := h.1 c_5
        refine lv_aload_n hx hb dX4_close_31 rfl (lv_at hl 0 rfl) ?_
        refine lv_iload_n hx hb dX4_close_32 rfl (lv_at hl 1 rfl) ?_
        obtain ⟨v_6, ev_6⟩ : ∃ z : StV, z = s_wen v x2 := ⟨_, rfl⟩
        have h := h v_6 ev_6
        refine xr_put (D := (dC, dI)) (C := RX4) (T := TX4) (N := 8) (ty := .int) (v := .int x2) (g := (xc ad ci (va_up st j v_6) ln sv kv cu)) hx hb hts wX4_close_c4 tyX4 tyX4_ok nmX4 hown hK hP hAD hS (xaS j) (xq_S hj) (xe_S (va_up_self _ _ _)) rfl 4 (by decide) wX4_close_f32 rfl rfl (by decide +kernel) rfl rfl (Nat.le_of_ble_eq_true rfl) dX4_close_33 (xg_en (va_up_self _ _ _) (by rw [ev_6]; exact bx_uu _ _ _ _)) (fun H locs hP hS => ?_)
        obtain ⟨x2_7, ex2_7⟩ : ∃ z : Int32, z = x2 + (-1) := ⟨_, rfl⟩
        have h := h x2_7 ex2_7
        refine lv_iinc (v := x2_7) (lv' := [(2, .int x2_7), (0, .ref (ad (xaS j)))]) hx hb dX4_close_36 hl (k := 1) rfl (by rw [ex2_7]; rfl) (by decide) rfl (fun ls hl => ?_)
        refine lv_goto (tgt := 12) hx hb dX4_close_39 (by decide) ?_
        exact ih x2_7 v_6 _ _ _ h hP hS (lv_sub hl [1, 0] rfl)
def PX4_close  (v : StV) (x1 : Int32) (post : StV → Prop) : Prop :=
  (PX4_clear v x1 (fun (v_1 : StV) => ∀ x2_2 : Int32, x2_2 = ((s_en v_1) - (1 : Int32)) → (∃ n_8 : Nat, LX4_close_12    post n_8 x2_2 v_1)))
set_option maxHeartbeats 4000000 in
set_option maxRecDepth 100000 in
theorem qX4_close (l : Launch) (dC : Nat → ClassId) (dI : Nat → Nat → Nat) (ad : Nat → Nat) (ci : Nat → ClassId) (A : Nat → Prop) (hAD : xw_D 141 ad A) (st : Nat → StV) (v : StV) (ln : Nat → LnV) (sv : SvV) (kv : KvV) (cu : Nat) (j : Nat) (hj : j < 7) (x1 : Int32) (post : StV → Prop) (h : PX4_close v x1 post) : Met l yX4_close wsX4_close rmX4_close (va_Pc [.ref (ad (xaS j)), .int x1] (fun U => va_P (dC, dI) vwCl (xw 141 ad (xc ad ci (va_up st j v) ln sv kv cu)) U.heap ∧ va_K (dC, dI) vwCl (xT ci) U)) (va_Qv (fun u : StV => post u) (fun u t => va_P (dC, dI) vwCl (xw 141 ad (xc ad ci (va_up st j u) ln sv kv cu)) t.heap) A) 0 0 A := by
  refine Met.ofW (cc := cX4_close) (maxL := 3) (ret := none) (by decide) rfl ?_
  intro p e s m args below meth c s₁ B hml hv
  obtain ⟨eargs, hP, hK⟩ := hv
  have C0 : xC p s m args meth c cX4_close 3 none RX4 wsX4_close (dC, dI) (xT ci) := ⟨B.exec, B.bytes, hml, B.returns, B.notSynchronized, findClass_of_methodNamed B.named, atoms_spec (ws := wsX4_close) B.pre, hK⟩
  obtain ⟨hx, hb, -, hr, hlocks, hown, hts, -⟩ := id C0
  have hS : va_S A s.heap s.heap [] := va_S.rf
  have hl := lv_entry ([.ref (ad (xaS j)), .int x1]) (n := 3) (Nat.le_of_ble_eq_true rfl)
  have ef : entryFrame m args 3 = entryFrame m ([.ref (ad (xaS j)), .int x1] : List Value).toArray 3 := by rw [eargs]
  rw [ef, lg_entry_eq]
  generalize (lg_sl ([.ref (ad (xaS j)), .int x1]) ++ List.replicate (3 - (lg_sl ([.ref (ad (xaS j)), .int x1])).length) Slot.unset).toArray = ls at hl ⊢
  have hl : lv_has ls 3 [(0, .ref (ad (xaS j))), (1, .int x1)] := hl
  have hP : va_P (dC, dI) vwCl (xw 141 ad (xc ad ci (va_up st j v) ln sv kv cu)) s.heap := hP
  unfold PX4_close at h
  refine lv_aload_n hx hb dX4_close_0 rfl (lv_at hl 0 rfl) ?_
  refine lv_iload_n hx hb dX4_close_1 rfl (lv_at hl 1 rfl) ?_
  refine va_callv (va_runV (As := [.int x1]) (rest := []) ⟨hx, hb, C0.2.2.1, hown, hts⟩ (qX4_clear l dC dI ad ci A hAD st v ln sv kv cu j hj x1 _ h) (cwV 1 hts gX4_close_X4_clear rfl rfl rfl (by decide +kernel) ⟨Nat.le_of_ble_eq_true rfl, Nat.le_of_ble_eq_true rfl⟩) ⟨xr_blind, xr_recv (r := (RX4, TX4, 8)) hK hP (xaS j) (xq_S hj) (xe_S (va_up_self _ _ _)) rfl, xr_pre hP hK⟩ rfl rfl hl.1 rfl (lv_room (Nat.le_of_ble_eq_true rfl)) dX4_close_2 ⟨Nat.zero_le _, Nat.zero_le _⟩) hS (fun _ _ h => h) (fun _ h => h) (fun v_1 t9 H locs ht hvm h hB _ _ hS => ?_)
  refine W.cs (cells' := 0) (slots' := 0) rfl rfl ?_
  have hP := x_th ht hB
  have hP : va_P (dC, dI) vwCl (xw 141 ad (xc ad ci (va_up st j v_1) ln sv kv cu)) H := hP
  refine lv_aload_n hx hb dX4_close_5 rfl (lv_at hl 0 rfl) ?_
  refine xr_get (D := (dC, dI)) (C := RX4) (T := TX4) (N := 8) (v := .int (s_en v_1)) hx hb hts wX4_close_c4 hown hK hP (xaS j) (xq_S hj) (xe_S (va_up_self _ _ _)) rfl 4 (by decide) wX4_close_f32 rfl rfl dX4_close_6 ?_
  refine lv_iconst (v := (1 : Int32)) hx hb dX4_close_9 (by decide) ?_
  refine lv_isub hx hb dX4_close_10 ?_
  refine lv_topi (fun x2_2 ex2_2 => ?_)
  have h := h x2_2 ex2_2
  refine lv_istore_n (lv' := [(2, .int x2_2), (0, .ref (ad (xaS j))), (1, .int x1)]) hx hb dX4_close_11 rfl hl (by decide) rfl (fun ls hl => ?_)
  obtain ⟨n_8, h⟩ := h
  exact kX4_close_12 l dC dI ad ci A hAD st ln sv kv cu j hj    post C0  n_8 x2_2 v_1 _ _ _ h hP hS (lv_sub hl [1, 0] rfl)
abbrev rmX4_copyOf : Room := { frames := 1, cells := 0, slots := 0, locals := 40 }
theorem wX4_copyOf_m39 : Cond.methodLink RX4 39 arraycopyName ∈ wsX4_copyOf := by decide +kernel
theorem wX4_copyOf_ac1 : Cond.native arraycopyName ∈ wsX4_copyOf := by decide +kernel
theorem wX4_copyOf_ac2 : Cond.static arraycopyName ∈ wsX4_copyOf := by decide +kernel
theorem wX4_copyOf_ac3 : Cond.initialized "java/lang/System" ∈ wsX4_copyOf := by decide +kernel
theorem wX4_copyOf_c4 : ∀ w ∈ u_ws RX4 TX4 8, w ∈ wsX4_copyOf := by decide +kernel
theorem wX4_copyOf_f32 : Cond.fieldLink RX4 32 "DueWheels$State" "end" "I" ∈ wsX4_copyOf := by decide +kernel
theorem wX4_copyOf_f11 : Cond.fieldLink RX4 11 "DueWheels$State" "dues" "[[J" ∈ wsX4_copyOf := by decide +kernel
theorem wX4_copyOf_f36 : Cond.fieldLink RX4 36 "DueWheels$State" "rowSize" "I" ∈ wsX4_copyOf := by decide +kernel
theorem wX4_copyOf_f16 : Cond.fieldLink RX4 16 "DueWheels$State" "row" "[[J" ∈ wsX4_copyOf := by decide +kernel
theorem wX4_copyOf_f29 : Cond.fieldLink RX4 29 "DueWheels$State" "moves" "J" ∈ wsX4_copyOf := by decide +kernel
theorem wX4_copyOf_f26 : Cond.fieldLink RX4 26 "DueWheels$State" "goings" "J" ∈ wsX4_copyOf := by decide +kernel
theorem wX4_copyOf_f23 : Cond.fieldLink RX4 23 "DueWheels$State" "places" "J" ∈ wsX4_copyOf := by decide +kernel
theorem wX4_copyOf_f19 : Cond.fieldLink RX4 19 "DueWheels$State" "time" "J" ∈ wsX4_copyOf := by decide +kernel
def LX4_copyOf_50  (o : StV)  (K83 : StV → Prop) (post : StV → Prop) : Nat → Int32 → StV → Prop
  | 0, _, _ => False
  | n + 1, x2, v => (((12 : Int32) ≤ x2 → K83 v) ∧ (¬ (12 : Int32) ≤ x2 → (vp_in x2 12 ∧ (vp_in x2 12 ∧ (¬ (s_en v) < 0 ∧ (s_en v).toNatClampNeg ≤ 200 ∧ (∀ v_12 : StV, v_12 = s_rdu v (x2.toNatClampNeg) (va_cpy (s_du o (x2.toNatClampNeg)) (s_du v (x2.toNatClampNeg)) 0 0 ((s_en v).toNatClampNeg)) → ∀ x2_13 : Int32, x2_13 = x2 + 1 → LX4_copyOf_50  o K83 post n x2_13 v_12))))))
set_option maxHeartbeats 4000000 in
set_option maxRecDepth 100000 in
theorem kX4_copyOf_50 {p : Program} {e : Env} {s : State} {m : MethodId} {args : Array Value} {below : List Frame} {meth : Method} {c : Code} (l : Launch) (dC : Nat → ClassId) (dI : Nat → Nat → Nat) (ad : Nat → Nat) (ci : Nat → ClassId) (A : Nat → Prop) (hAD : xw_D 141 ad A) (st : Nat → StV) (o : StV) (ln : Nat → LnV) (sv : SvV) (kv : KvV) (cu : Nat) (j : Nat) (hj : j < 7) (j2 : Nat) (hj2 : j2 < 7) (hne : j2 ≠ j) (ho : st j2 = o)  (K83 : StV → Prop) (post : StV → Prop) (C0 : xC p s m args meth c cX4_copyOf 3 none RX4 wsX4_copyOf (dC, dI) (xT ci)) (hK83 : ∀ (v : StV) (H : Heap) (locs : List Loc) (ls : Array Slot), K83 v → va_P (dC, dI) vwCl (xw 141 ad (xc ad ci (va_up st j v) ln sv kv cu)) H → va_S A s.heap H locs → lv_has ls 3 [(0, .ref (ad (xaS j))), (1, .ref (ad (xaS j2)))] → W p l e rmX4_copyOf s m args below meth c H locs 0 0 (MQ below (va_Qv (fun u : StV => post u) (fun u t => va_P (dC, dI) vwCl (xw 141 ad (xc ad ci (va_up st j u) ln sv kv cu)) t.heap) A) args s 0 0 A) (F0 m 83 ls [])) : ∀ (n : Nat) (x2 : Int32) (v : StV) (H : Heap) (locs : List Loc) (ls : Array Slot), LX4_copyOf_50  o K83 post n x2 v → va_P (dC, dI) vwCl (xw 141 ad (xc ad ci (va_up st j v) ln sv kv cu)) H → va_S A s.heap H locs → lv_has ls 3 [(0, .ref (ad (xaS j))), (1, .ref (ad (xaS j2))), (2, .int x2)] → W p l e rmX4_copyOf s m args below meth c H locs 0 0 (MQ below (va_Qv (fun u : StV => post u) (fun u t => va_P (dC, dI) vwCl (xw 141 ad (xc ad ci (va_up st j u) ln sv kv cu)) t.heap) A) args s 0 0 A) (F0 m 50 ls []) := by
  obtain ⟨hx, hb, -, hr, hlocks, hown, hts, hK⟩ := id C0
  intro n
  induction n with
  | zero =>
    intro x2 v H locs ls h
    exact False.elim h
  | succ n ih =>
    intro x2 v H locs ls h hP hS hl
    rw [LX4_copyOf_50] at h
    refine lv_iload_n hx hb dX4_copyOf_50 rfl (lv_at hl 2 rfl) ?_
    refine lv_bipush (v := (12 : Int32)) hx hb dX4_copyOf_51 (by decide) ?_
    refine lv_icmp_ge (tgt := 83) hx hb dX4_copyOf_53 (by decide) (fun c_7 => ?_) (fun c_7 => ?_)
    · have h := h.1 c_7
      exact hK83 v _ _ _ h hP hS (lv_sub hl [0, 1] rfl)
    · have h := h.2 c_7
      refine lv_aload_n hx hb dX4_copyOf_56 rfl (lv_at hl 1 rfl) ?_
      refine xr_get (D := (dC, dI)) (C := RX4) (T := TX4) (N := 8) (v := .ref (ad (xaD0 j2))) hx hb hts wX4_copyOf_c4 hown hK hP (xaS j2) (xq_S hj2) (xe_S (x_oth hne ho)) rfl 6 (by decide) wX4_copyOf_f11 rfl rfl dX4_copyOf_57 ?_
      refine lv_iload_n hx hb dX4_copyOf_60 rfl (lv_at hl 2 rfl) ?_
      obtain ⟨g_8, h⟩ := h
      refine xr_aald (k := x2.toNatClampNeg) (b := ad (xaD j2 x2.toNatClampNeg)) hx hb hK hP (xaD0 j2) 4 (xq_D0 hj2) xe_D0 rfl rfl rfl g_8 rfl dX4_copyOf_61 ?_
      refine lv_iconst (v := (0 : Int32)) hx hb dX4_copyOf_62 (by decide) ?_
      refine lv_aload_n hx hb dX4_copyOf_63 rfl (lv_at hl 0 rfl) ?_
      refine xr_get (D := (dC, dI)) (C := RX4) (T := TX4) (N := 8) (v := .ref (ad (xaD0 j))) hx hb hts wX4_copyOf_c4 hown hK hP (xaS j) (xq_S hj) (xe_S (va_up_self _ _ _)) rfl 6 (by decide) wX4_copyOf_f11 rfl rfl dX4_copyOf_64 ?_
      refine lv_iload_n hx hb dX4_copyOf_67 rfl (lv_at hl 2 rfl) ?_
      obtain ⟨g_9, h⟩ := h
      refine xr_aald (k := x2.toNatClampNeg) (b := ad (xaD j x2.toNatClampNeg)) hx hb hK hP (xaD0 j) 4 (xq_D0 hj) xe_D0 rfl rfl rfl g_9 rfl dX4_copyOf_68 ?_
      refine lv_iconst (v := (0 : Int32)) hx hb dX4_copyOf_69 (by decide) ?_
      refine lv_aload_n hx hb dX4_copyOf_70 rfl (lv_at hl 0 rfl) ?_
      refine xr_get (D := (dC, dI)) (C := RX4) (T := TX4) (N := 8) (v := .int (s_en v)) hx hb hts wX4_copyOf_c4 hown hK hP (xaS j) (xq_S hj) (xe_S (va_up_self _ _ _)) rfl 4 (by decide) wX4_copyOf_f32 rfl rfl dX4_copyOf_71 ?_
      obtain ⟨g_10, g_11, h⟩ := h
      obtain ⟨v_12, ev_12⟩ : ∃ z : StV, z = s_rdu v (x2.toNatClampNeg) (va_cpy (s_du o (x2.toNatClampNeg)) (s_du v (x2.toNatClampNeg)) 0 0 ((s_en v).toNatClampNeg)) := ⟨_, rfl⟩
      have h := h v_12 ev_12
      refine xr_copyl (k := (s_en v).toNatClampNeg) (g := (xc ad ci (va_up st j v_12) ln sv kv cu)) hx hb (by rw [C0.2.2.1]; exact hl.1.symm) hts hown wX4_copyOf_m39 wX4_copyOf_ac1 wX4_copyOf_ac2 wX4_copyOf_ac3 hK hP hAD hS (xaD j2 x2.toNatClampNeg) (xaD j x2.toNatClampNeg) 1 (xq_D hj2 (x_lt g_9)) (xq_D hj (x_lt g_9)) (xe_D (x_lt g_9) (x_oth hne ho)) (xe_D (x_lt g_9) (va_up_self _ _ _)) rfl rfl g_10 g_11 g_11 (Nat.le_of_ble_eq_true rfl) (Nat.le_of_ble_eq_true rfl) dX4_copyOf_74 (xg_rdu (x_lt g_9) (va_up_self _ _ _) (by rw [ev_12]; exact bx_uu _ _ _ _)) (fun H locs hP hS => ?_)
      obtain ⟨x2_13, ex2_13⟩ : ∃ z : Int32, z = x2 + 1 := ⟨_, rfl⟩
      have h := h x2_13 ex2_13
      refine lv_iinc (v := x2_13) (lv' := [(2, .int x2_13), (0, .ref (ad (xaS j))), (1, .ref (ad (xaS j2)))]) hx hb dX4_copyOf_77 hl (k := 2) rfl (by rw [ex2_13]; rfl) (by decide) rfl (fun ls hl => ?_)
      refine lv_goto (tgt := 50) hx hb dX4_copyOf_80 (by decide) ?_
      exact ih x2_13 v_12 _ _ _ h hP hS (lv_sub hl [1, 2, 0] rfl)
def LX4_copyOf_85  (o : StV)   (post : StV → Prop) : Nat → Int32 → StV → Prop
  | 0, _, _ => False
  | n + 1, x2, v => (((3 : Int32) ≤ x2 → post v) ∧ (¬ (3 : Int32) ≤ x2 → (vp_in x2 3 ∧ (vp_in x2 3 ∧ (¬ (s_rs v) < 0 ∧ (s_rs v).toNatClampNeg ≤ 300 ∧ (∀ v_20 : StV, v_20 = s_rro v (x2.toNatClampNeg) (va_cpy (s_ro o (x2.toNatClampNeg)) (s_ro v (x2.toNatClampNeg)) 0 0 ((s_rs v).toNatClampNeg)) → ∀ x2_21 : Int32, x2_21 = x2 + 1 → LX4_copyOf_85  o post n x2_21 v_20))))))
set_option maxHeartbeats 4000000 in
set_option maxRecDepth 100000 in
theorem kX4_copyOf_85 {p : Program} {e : Env} {s : State} {m : MethodId} {args : Array Value} {below : List Frame} {meth : Method} {c : Code} (l : Launch) (dC : Nat → ClassId) (dI : Nat → Nat → Nat) (ad : Nat → Nat) (ci : Nat → ClassId) (A : Nat → Prop) (hAD : xw_D 141 ad A) (st : Nat → StV) (o : StV) (ln : Nat → LnV) (sv : SvV) (kv : KvV) (cu : Nat) (j : Nat) (hj : j < 7) (j2 : Nat) (hj2 : j2 < 7) (hne : j2 ≠ j) (ho : st j2 = o)   (post : StV → Prop) (C0 : xC p s m args meth c cX4_copyOf 3 none RX4 wsX4_copyOf (dC, dI) (xT ci)) : ∀ (n : Nat) (x2 : Int32) (v : StV) (H : Heap) (locs : List Loc) (ls : Array Slot), LX4_copyOf_85  o post n x2 v → va_P (dC, dI) vwCl (xw 141 ad (xc ad ci (va_up st j v) ln sv kv cu)) H → va_S A s.heap H locs → lv_has ls 3 [(0, .ref (ad (xaS j))), (1, .ref (ad (xaS j2))), (2, .int x2)] → W p l e rmX4_copyOf s m args below meth c H locs 0 0 (MQ below (va_Qv (fun u : StV => post u) (fun u t => va_P (dC, dI) vwCl (xw 141 ad (xc ad ci (va_up st j u) ln sv kv cu)) t.heap) A) args s 0 0 A) (F0 m 85 ls []) := by
  obtain ⟨hx, hb, -, hr, hlocks, hown, hts, hK⟩ := id C0
  intro n
  induction n with
  | zero =>
    intro x2 v H locs ls h
    exact False.elim h
  | succ n ih =>
    intro x2 v H locs ls h hP hS hl
    rw [LX4_copyOf_85] at h
    refine lv_iload_n hx hb dX4_copyOf_85 rfl (lv_at hl 2 rfl) ?_
    refine lv_iconst (v := (3 : Int32)) hx hb dX4_copyOf_86 (by decide) ?_
    refine lv_icmp_ge (tgt := 117) hx hb dX4_copyOf_87 (by decide) (fun c_15 => ?_) (fun c_15 => ?_)
    · have h := h.1 c_15
      exact W.vret hx hb hr (fun t ht hW => ⟨⟨v, rfl, h, x_ht ht hP⟩, hS.F ht⟩) hS.2.2 dX4_copyOf_117
    · have h := h.2 c_15
      refine lv_aload_n hx hb dX4_copyOf_90 rfl (lv_at hl 1 rfl) ?_
      refine xr_get (D := (dC, dI)) (C := RX4) (T := TX4) (N := 8) (v := .ref (ad (xaR0 j2))) hx hb hts wX4_copyOf_c4 hown hK hP (xaS j2) (xq_S hj2) (xe_S (x_oth hne ho)) rfl 7 (by decide) wX4_copyOf_f16 rfl rfl dX4_copyOf_91 ?_
      refine lv_iload_n hx hb dX4_copyOf_94 rfl (lv_at hl 2 rfl) ?_
      obtain ⟨g_16, h⟩ := h
      refine xr_aald (k := x2.toNatClampNeg) (b := ad (xaR j2 x2.toNatClampNeg)) hx hb hK hP (xaR0 j2) 4 (xq_R0 hj2) xe_R0 rfl rfl rfl g_16 rfl dX4_copyOf_95 ?_
      refine lv_iconst (v := (0 : Int32)) hx hb dX4_copyOf_96 (by decide) ?_
      refine lv_aload_n hx hb dX4_copyOf_97 rfl (lv_at hl 0 rfl) ?_
      refine xr_get (D := (dC, dI)) (C := RX4) (T := TX4) (N := 8) (v := .ref (ad (xaR0 j))) hx hb hts wX4_copyOf_c4 hown hK hP (xaS j) (xq_S hj) (xe_S (va_up_self _ _ _)) rfl 7 (by decide) wX4_copyOf_f16 rfl rfl dX4_copyOf_98 ?_
      refine lv_iload_n hx hb dX4_copyOf_101 rfl (lv_at hl 2 rfl) ?_
      obtain ⟨g_17, h⟩ := h
      refine xr_aald (k := x2.toNatClampNeg) (b := ad (xaR j x2.toNatClampNeg)) hx hb hK hP (xaR0 j) 4 (xq_R0 hj) xe_R0 rfl rfl rfl g_17 rfl dX4_copyOf_102 ?_
      refine lv_iconst (v := (0 : Int32)) hx hb dX4_copyOf_103 (by decide) ?_
      refine lv_aload_n hx hb dX4_copyOf_104 rfl (lv_at hl 0 rfl) ?_
      refine xr_get (D := (dC, dI)) (C := RX4) (T := TX4) (N := 8) (v := .int (s_rs v)) hx hb hts wX4_copyOf_c4 hown hK hP (xaS j) (xq_S hj) (xe_S (va_up_self _ _ _)) rfl 5 (by decide) wX4_copyOf_f36 rfl rfl dX4_copyOf_105 ?_
      obtain ⟨g_18, g_19, h⟩ := h
      obtain ⟨v_20, ev_20⟩ : ∃ z : StV, z = s_rro v (x2.toNatClampNeg) (va_cpy (s_ro o (x2.toNatClampNeg)) (s_ro v (x2.toNatClampNeg)) 0 0 ((s_rs v).toNatClampNeg)) := ⟨_, rfl⟩
      have h := h v_20 ev_20
      refine xr_copyl (k := (s_rs v).toNatClampNeg) (g := (xc ad ci (va_up st j v_20) ln sv kv cu)) hx hb (by rw [C0.2.2.1]; exact hl.1.symm) hts hown wX4_copyOf_m39 wX4_copyOf_ac1 wX4_copyOf_ac2 wX4_copyOf_ac3 hK hP hAD hS (xaR j2 x2.toNatClampNeg) (xaR j x2.toNatClampNeg) 1 (xq_R hj2 (x_lt g_17)) (xq_R hj (x_lt g_17)) (xe_R (x_lt g_17) (x_oth hne ho)) (xe_R (x_lt g_17) (va_up_self _ _ _)) rfl rfl g_18 g_19 g_19 (Nat.le_of_ble_eq_true rfl) (Nat.le_of_ble_eq_true rfl) dX4_copyOf_108 (xg_rro (x_lt g_17) (va_up_self _ _ _) (by rw [ev_20]; exact bx_uu _ _ _ _)) (fun H locs hP hS => ?_)
      obtain ⟨x2_21, ex2_21⟩ : ∃ z : Int32, z = x2 + 1 := ⟨_, rfl⟩
      have h := h x2_21 ex2_21
      refine lv_iinc (v := x2_21) (lv' := [(2, .int x2_21), (0, .ref (ad (xaS j))), (1, .ref (ad (xaS j2)))]) hx hb dX4_copyOf_111 hl (k := 2) rfl (by rw [ex2_21]; rfl) (by decide) rfl (fun ls hl => ?_)
      refine lv_goto (tgt := 85) hx hb dX4_copyOf_114 (by decide) ?_
      exact ih x2_21 v_20 _ _ _ h hP hS (lv_sub hl [1, 2, 0] rfl)
def PX4_copyOf  (v : StV) (o : StV)  (post : StV → Prop) : Prop :=
  ∀ v_1 : StV, v_1 = s_wtm v (s_tm o) → ∀ v_2 : StV, v_2 = s_wpl v_1 (s_pl o) → ∀ v_3 : StV, v_3 = s_wgo v_2 (s_go o) → ∀ v_4 : StV, v_4 = s_wmv v_3 (s_mv o) → ∀ v_5 : StV, v_5 = s_wen v_4 (s_en o) → ∀ v_6 : StV, v_6 = s_wrs v_5 (s_rs o) → (∃ n_23 : Nat, LX4_copyOf_50  o (fun (v_14 : StV) => (∃ n_22 : Nat, LX4_copyOf_85  o  post n_22 (0 : Int32) v_14)) post n_23 (0 : Int32) v_6)
set_option maxHeartbeats 4000000 in
set_option maxRecDepth 100000 in
theorem qX4_copyOf (l : Launch) (dC : Nat → ClassId) (dI : Nat → Nat → Nat) (ad : Nat → Nat) (ci : Nat → ClassId) (A : Nat → Prop) (hAD : xw_D 141 ad A) (st : Nat → StV) (v : StV) (o : StV) (ln : Nat → LnV) (sv : SvV) (kv : KvV) (cu : Nat) (j : Nat) (hj : j < 7) (j2 : Nat) (hj2 : j2 < 7) (hne : j2 ≠ j) (ho : st j2 = o)  (post : StV → Prop) (h : PX4_copyOf v o post) : Met l yX4_copyOf wsX4_copyOf rmX4_copyOf (va_Pc [.ref (ad (xaS j)), .ref (ad (xaS j2))] (fun U => va_P (dC, dI) vwCl (xw 141 ad (xc ad ci (va_up st j v) ln sv kv cu)) U.heap ∧ va_K (dC, dI) vwCl (xT ci) U)) (va_Qv (fun u : StV => post u) (fun u t => va_P (dC, dI) vwCl (xw 141 ad (xc ad ci (va_up st j u) ln sv kv cu)) t.heap) A) 0 0 A := by
  refine Met.ofW (cc := cX4_copyOf) (maxL := 3) (ret := none) (by decide) rfl ?_
  intro p e s m args below meth c s₁ B hml hv
  obtain ⟨eargs, hP, hK⟩ := hv
  have C0 : xC p s m args meth c cX4_copyOf 3 none RX4 wsX4_copyOf (dC, dI) (xT ci) := ⟨B.exec, B.bytes, hml, B.returns, B.notSynchronized, findClass_of_methodNamed B.named, atoms_spec (ws := wsX4_copyOf) B.pre, hK⟩
  obtain ⟨hx, hb, -, hr, hlocks, hown, hts, -⟩ := id C0
  have hS : va_S A s.heap s.heap [] := va_S.rf
  have hl := lv_entry ([.ref (ad (xaS j)), .ref (ad (xaS j2))]) (n := 3) (Nat.le_of_ble_eq_true rfl)
  have ef : entryFrame m args 3 = entryFrame m ([.ref (ad (xaS j)), .ref (ad (xaS j2))] : List Value).toArray 3 := by rw [eargs]
  rw [ef, lg_entry_eq]
  generalize (lg_sl ([.ref (ad (xaS j)), .ref (ad (xaS j2))]) ++ List.replicate (3 - (lg_sl ([.ref (ad (xaS j)), .ref (ad (xaS j2))])).length) Slot.unset).toArray = ls at hl ⊢
  have hl : lv_has ls 3 [(0, .ref (ad (xaS j))), (1, .ref (ad (xaS j2)))] := hl
  have hP : va_P (dC, dI) vwCl (xw 141 ad (xc ad ci (va_up st j v) ln sv kv cu)) s.heap := hP
  unfold PX4_copyOf at h
  refine lv_aload_n hx hb dX4_copyOf_0 rfl (lv_at hl 0 rfl) ?_
  refine lv_aload_n hx hb dX4_copyOf_1 rfl (lv_at hl 1 rfl) ?_
  refine xr_get (D := (dC, dI)) (C := RX4) (T := TX4) (N := 8) (v := .long (s_tm o)) hx hb hts wX4_copyOf_c4 hown hK hP (xaS j2) (xq_S hj2) (xe_S (x_oth hne ho)) rfl 0 (by decide) wX4_copyOf_f19 rfl rfl dX4_copyOf_2 ?_
  obtain ⟨v_1, ev_1⟩ : ∃ z : StV, z = s_wtm v (s_tm o) := ⟨_, rfl⟩
  have h := h v_1 ev_1
  refine xr_put (D := (dC, dI)) (C := RX4) (T := TX4) (N := 8) (ty := .long) (v := .long (s_tm o)) (g := (xc ad ci (va_up st j v_1) ln sv kv cu)) hx hb hts wX4_copyOf_c4 tyX4 tyX4_ok nmX4 hown hK hP hAD hS (xaS j) (xq_S hj) (xe_S (va_up_self _ _ _)) rfl 0 (by decide) wX4_copyOf_f19 rfl rfl (by decide +kernel) rfl rfl (Nat.le_of_ble_eq_true rfl) dX4_copyOf_5 (xg_tm (va_up_self _ _ _) (by rw [ev_1]; exact bx_uu _ _ _ _)) (fun H locs hP hS => ?_)
  refine lv_aload_n hx hb dX4_copyOf_8 rfl (lv_at hl 0 rfl) ?_
  refine lv_aload_n hx hb dX4_copyOf_9 rfl (lv_at hl 1 rfl) ?_
  refine xr_get (D := (dC, dI)) (C := RX4) (T := TX4) (N := 8) (v := .long (s_pl o)) hx hb hts wX4_copyOf_c4 hown hK hP (xaS j2) (xq_S hj2) (xe_S (x_oth hne ho)) rfl 1 (by decide) wX4_copyOf_f23 rfl rfl dX4_copyOf_10 ?_
  obtain ⟨v_2, ev_2⟩ : ∃ z : StV, z = s_wpl v_1 (s_pl o) := ⟨_, rfl⟩
  have h := h v_2 ev_2
  refine xr_put (D := (dC, dI)) (C := RX4) (T := TX4) (N := 8) (ty := .long) (v := .long (s_pl o)) (g := (xc ad ci (va_up st j v_2) ln sv kv cu)) hx hb hts wX4_copyOf_c4 tyX4 tyX4_ok nmX4 hown hK hP hAD hS (xaS j) (xq_S hj) (xe_S (va_up_self _ _ _)) rfl 1 (by decide) wX4_copyOf_f23 rfl rfl (by decide +kernel) rfl rfl (Nat.le_of_ble_eq_true rfl) dX4_copyOf_13 (xg_pl (va_up_self _ _ _) (by rw [ev_2]; exact bx_uu _ _ _ _)) (fun H locs hP hS => ?_)
  refine lv_aload_n hx hb dX4_copyOf_16 rfl (lv_at hl 0 rfl) ?_
  refine lv_aload_n hx hb dX4_copyOf_17 rfl (lv_at hl 1 rfl) ?_
  refine xr_get (D := (dC, dI)) (C := RX4) (T := TX4) (N := 8) (v := .long (s_go o)) hx hb hts wX4_copyOf_c4 hown hK hP (xaS j2) (xq_S hj2) (xe_S (x_oth hne ho)) rfl 2 (by decide) wX4_copyOf_f26 rfl rfl dX4_copyOf_18 ?_
  obtain ⟨v_3, ev_3⟩ : ∃ z : StV, z = s_wgo v_2 (s_go o) := ⟨_, rfl⟩
  have h := h v_3 ev_3
  refine xr_put (D := (dC, dI)) (C := RX4) (T := TX4) (N := 8) (ty := .long) (v := .long (s_go o)) (g := (xc ad ci (va_up st j v_3) ln sv kv cu)) hx hb hts wX4_copyOf_c4 tyX4 tyX4_ok nmX4 hown hK hP hAD hS (xaS j) (xq_S hj) (xe_S (va_up_self _ _ _)) rfl 2 (by decide) wX4_copyOf_f26 rfl rfl (by decide +kernel) rfl rfl (Nat.le_of_ble_eq_true rfl) dX4_copyOf_21 (xg_go (va_up_self _ _ _) (by rw [ev_3]; exact bx_uu _ _ _ _)) (fun H locs hP hS => ?_)
  refine lv_aload_n hx hb dX4_copyOf_24 rfl (lv_at hl 0 rfl) ?_
  refine lv_aload_n hx hb dX4_copyOf_25 rfl (lv_at hl 1 rfl) ?_
  refine xr_get (D := (dC, dI)) (C := RX4) (T := TX4) (N := 8) (v := .long (s_mv o)) hx hb hts wX4_copyOf_c4 hown hK hP (xaS j2) (xq_S hj2) (xe_S (x_oth hne ho)) rfl 3 (by decide) wX4_copyOf_f29 rfl rfl dX4_copyOf_26 ?_
  obtain ⟨v_4, ev_4⟩ : ∃ z : StV, z = s_wmv v_3 (s_mv o) := ⟨_, rfl⟩
  have h := h v_4 ev_4
  refine xr_put (D := (dC, dI)) (C := RX4) (T := TX4) (N := 8) (ty := .long) (v := .long (s_mv o)) (g := (xc ad ci (va_up st j v_4) ln sv kv cu)) hx hb hts wX4_copyOf_c4 tyX4 tyX4_ok nmX4 hown hK hP hAD hS (xaS j) (xq_S hj) (xe_S (va_up_self _ _ _)) rfl 3 (by decide) wX4_copyOf_f29 rfl rfl (by decide +kernel) rfl rfl (Nat.le_of_ble_eq_true rfl) dX4_copyOf_29 (xg_mv (va_up_self _ _ _) (by rw [ev_4]; exact bx_uu _ _ _ _)) (fun H locs hP hS => ?_)
  refine lv_aload_n hx hb dX4_copyOf_32 rfl (lv_at hl 0 rfl) ?_
  refine lv_aload_n hx hb dX4_copyOf_33 rfl (lv_at hl 1 rfl) ?_
  refine xr_get (D := (dC, dI)) (C := RX4) (T := TX4) (N := 8) (v := .int (s_en o)) hx hb hts wX4_copyOf_c4 hown hK hP (xaS j2) (xq_S hj2) (xe_S (x_oth hne ho)) rfl 4 (by decide) wX4_copyOf_f32 rfl rfl dX4_copyOf_34 ?_
  obtain ⟨v_5, ev_5⟩ : ∃ z : StV, z = s_wen v_4 (s_en o) := ⟨_, rfl⟩
  have h := h v_5 ev_5
  refine xr_put (D := (dC, dI)) (C := RX4) (T := TX4) (N := 8) (ty := .int) (v := .int (s_en o)) (g := (xc ad ci (va_up st j v_5) ln sv kv cu)) hx hb hts wX4_copyOf_c4 tyX4 tyX4_ok nmX4 hown hK hP hAD hS (xaS j) (xq_S hj) (xe_S (va_up_self _ _ _)) rfl 4 (by decide) wX4_copyOf_f32 rfl rfl (by decide +kernel) rfl rfl (Nat.le_of_ble_eq_true rfl) dX4_copyOf_37 (xg_en (va_up_self _ _ _) (by rw [ev_5]; exact bx_uu _ _ _ _)) (fun H locs hP hS => ?_)
  refine lv_aload_n hx hb dX4_copyOf_40 rfl (lv_at hl 0 rfl) ?_
  refine lv_aload_n hx hb dX4_copyOf_41 rfl (lv_at hl 1 rfl) ?_
  refine xr_get (D := (dC, dI)) (C := RX4) (T := TX4) (N := 8) (v := .int (s_rs o)) hx hb hts wX4_copyOf_c4 hown hK hP (xaS j2) (xq_S hj2) (xe_S (x_oth hne ho)) rfl 5 (by decide) wX4_copyOf_f36 rfl rfl dX4_copyOf_42 ?_
  obtain ⟨v_6, ev_6⟩ : ∃ z : StV, z = s_wrs v_5 (s_rs o) := ⟨_, rfl⟩
  have h := h v_6 ev_6
  refine xr_put (D := (dC, dI)) (C := RX4) (T := TX4) (N := 8) (ty := .int) (v := .int (s_rs o)) (g := (xc ad ci (va_up st j v_6) ln sv kv cu)) hx hb hts wX4_copyOf_c4 tyX4 tyX4_ok nmX4 hown hK hP hAD hS (xaS j) (xq_S hj) (xe_S (va_up_self _ _ _)) rfl 5 (by decide) wX4_copyOf_f36 rfl rfl (by decide +kernel) rfl rfl (Nat.le_of_ble_eq_true rfl) dX4_copyOf_45 (xg_rs (va_up_self _ _ _) (by rw [ev_6]; exact bx_uu _ _ _ _)) (fun H locs hP hS => ?_)
  refine lv_iconst (v := (0 : Int32)) hx hb dX4_copyOf_48 (by decide) ?_
  refine lv_istore_n (lv' := [(2, .int (0 : Int32)), (0, .ref (ad (xaS j))), (1, .ref (ad (xaS j2)))]) hx hb dX4_copyOf_49 rfl hl (by decide) rfl (fun ls hl => ?_)
  obtain ⟨n_23, h⟩ := h
  refine kX4_copyOf_50 l dC dI ad ci A hAD st o ln sv kv cu j hj j2 hj2 hne ho  _ post C0 ?_ n_23 (0 : Int32) v_6 _ _ _ h hP hS (lv_sub hl [1, 2, 0] rfl)
  · intro v_14 H locs ls h hP hS hl
    refine lv_iconst (v := (0 : Int32)) hx hb dX4_copyOf_83 (by decide) ?_
    refine lv_istore_n (lv' := [(2, .int (0 : Int32)), (0, .ref (ad (xaS j))), (1, .ref (ad (xaS j2)))]) hx hb dX4_copyOf_84 rfl hl (by decide) rfl (fun ls hl => ?_)
    obtain ⟨n_22, h⟩ := h
    exact kX4_copyOf_85 l dC dI ad ci A hAD st o ln sv kv cu j hj j2 hj2 hne ho   post C0  n_22 (0 : Int32) v_14 _ _ _ h hP hS (lv_sub hl [1, 2, 0] rfl)
abbrev rmX4_isDue : Room := { frames := 0, cells := 0, slots := 0, locals := 0 }
theorem wX4_isDue_k45 : Cond.constantLong RX4 45 (-2000000005) ∈ wsX4_isDue := by decide +kernel
theorem wX4_isDue_c4 : ∀ w ∈ u_ws RX4 TX4 8, w ∈ wsX4_isDue := by decide +kernel
theorem wX4_isDue_f11 : Cond.fieldLink RX4 11 "DueWheels$State" "dues" "[[J" ∈ wsX4_isDue := by decide +kernel
theorem wX4_isDue_f32 : Cond.fieldLink RX4 32 "DueWheels$State" "end" "I" ∈ wsX4_isDue := by decide +kernel
def PX4_isDue  (v : StV) (x1 : Int32) (post : Int32 → Prop) : Prop :=
  ((x1 < 0 → post (0 : Int32)) ∧ (¬ x1 < 0 → (((s_en v) ≤ x1 → post (0 : Int32)) ∧ (¬ (s_en v) ≤ x1 → (vp_in x1 200 ∧ (((s_du v 0 (x1.toNatClampNeg)) = (-2000000005 : Int64) → post (0 : Int32)) ∧ (¬ (s_du v 0 (x1.toNatClampNeg)) = (-2000000005 : Int64) → post (1 : Int32))))))))
set_option maxHeartbeats 4000000 in
set_option maxRecDepth 100000 in
theorem qX4_isDue (l : Launch) (dC : Nat → ClassId) (dI : Nat → Nat → Nat) (ad : Nat → Nat) (ci : Nat → ClassId) (A : Nat → Prop) (hAD : xw_D 141 ad A) (st : Nat → StV) (v : StV) (ln : Nat → LnV) (sv : SvV) (kv : KvV) (cu : Nat) (j : Nat) (hj : j < 7) (x1 : Int32) (post : Int32 → Prop) (h : PX4_isDue v x1 post) : Met l yX4_isDue wsX4_isDue rmX4_isDue (va_Pc [.ref (ad (xaS j)), .int x1] (fun U => va_P (dC, dI) vwCl (xw 141 ad (xc ad ci (va_up st j v) ln sv kv cu)) U.heap ∧ va_K (dC, dI) vwCl (xT ci) U)) (va_Qi (fun r9 (u : Unit) => post r9 ) (fun u t => va_P (dC, dI) vwCl (xw 141 ad (xc ad ci (va_up st j v) ln sv kv cu)) t.heap) A) 0 0 A := by
  refine Met.ofW (cc := cX4_isDue) (maxL := 2) (ret := (some .boolean)) (by decide) rfl ?_
  intro p e s m args below meth c s₁ B hml hv
  obtain ⟨eargs, hP, hK⟩ := hv
  have C0 : xC p s m args meth c cX4_isDue 2 (some .boolean) RX4 wsX4_isDue (dC, dI) (xT ci) := ⟨B.exec, B.bytes, hml, B.returns, B.notSynchronized, findClass_of_methodNamed B.named, atoms_spec (ws := wsX4_isDue) B.pre, hK⟩
  obtain ⟨hx, hb, -, hr, hlocks, hown, hts, -⟩ := id C0
  have hS : va_S A s.heap s.heap [] := va_S.rf
  have hl := lv_entry ([.ref (ad (xaS j)), .int x1]) (n := 2) (Nat.le_of_ble_eq_true rfl)
  have ef : entryFrame m args 2 = entryFrame m ([.ref (ad (xaS j)), .int x1] : List Value).toArray 2 := by rw [eargs]
  rw [ef, lg_entry_eq]
  generalize (lg_sl ([.ref (ad (xaS j)), .int x1]) ++ List.replicate (2 - (lg_sl ([.ref (ad (xaS j)), .int x1])).length) Slot.unset).toArray = ls at hl ⊢
  have hl : lv_has ls 2 [(0, .ref (ad (xaS j))), (1, .int x1)] := hl
  have hP : va_P (dC, dI) vwCl (xw 141 ad (xc ad ci (va_up st j v) ln sv kv cu)) s.heap := hP
  unfold PX4_isDue at h
  refine lv_iload_n hx hb dX4_isDue_0 rfl (lv_at hl 1 rfl) ?_
  refine lv_if_lt (tgt := 31) hx hb dX4_isDue_1 (by decide) (fun c_1 => ?_) (fun c_1 => ?_)
  · have h := h.1 c_1
    refine lv_iconst (v := (0 : Int32)) hx hb dX4_isDue_31 (by decide) ?_
    exact W.zret (v := (0 : Int32)) (ty := .boolean) hx hb hr (by decide) (fun t ht hW => ⟨⟨(0 : Int32), (), rfl, h, x_ht ht hP⟩, hS.F ht⟩) hS.2.2 dX4_isDue_32
  · have h := h.2 c_1
    refine lv_iload_n hx hb dX4_isDue_4 rfl (lv_at hl 1 rfl) ?_
    refine lv_aload_n hx hb dX4_isDue_5 rfl (lv_at hl 0 rfl) ?_
    refine xr_get (D := (dC, dI)) (C := RX4) (T := TX4) (N := 8) (v := .int (s_en v)) hx hb hts wX4_isDue_c4 hown hK hP (xaS j) (xq_S hj) (xe_S (va_up_self _ _ _)) rfl 4 (by decide) wX4_isDue_f32 rfl rfl dX4_isDue_6 ?_
    refine lv_icmp_ge (tgt := 31) hx hb dX4_isDue_9 (by decide) (fun c_2 => ?_) (fun c_2 => ?_)
    · have h := h.1 c_2
      refine lv_iconst (v := (0 : Int32)) hx hb dX4_isDue_31 (by decide) ?_
      exact W.zret (v := (0 : Int32)) (ty := .boolean) hx hb hr (by decide) (fun t ht hW => ⟨⟨(0 : Int32), (), rfl, h, x_ht ht hP⟩, hS.F ht⟩) hS.2.2 dX4_isDue_32
    · have h := h.2 c_2
      refine lv_aload_n hx hb dX4_isDue_12 rfl (lv_at hl 0 rfl) ?_
      refine xr_get (D := (dC, dI)) (C := RX4) (T := TX4) (N := 8) (v := .ref (ad (xaD0 j))) hx hb hts wX4_isDue_c4 hown hK hP (xaS j) (xq_S hj) (xe_S (va_up_self _ _ _)) rfl 6 (by decide) wX4_isDue_f11 rfl rfl dX4_isDue_13 ?_
      refine lv_iconst (v := (0 : Int32)) hx hb dX4_isDue_16 (by decide) ?_
      refine xr_aald (k := 0) (b := ad (xaD j 0)) hx hb hK hP (xaD0 j) 4 (xq_D0 hj) xe_D0 rfl rfl rfl (x_in _ _ (by decide)) rfl dX4_isDue_17 ?_
      refine lv_iload_n hx hb dX4_isDue_18 rfl (lv_at hl 1 rfl) ?_
      obtain ⟨g_3, h⟩ := h
      refine xr_lald (k := x1.toNatClampNeg) hx hb hK hP (xaD j 0) 1 (xq_D hj (by decide)) (xe_D (by decide) (va_up_self _ _ _)) rfl rfl g_3 dX4_isDue_19 ?_
      refine lv_ldc2 (v := (-2000000005 : Int64)) hx hb hown (hts _ wX4_isDue_k45) dX4_isDue_20 ?_
      refine xr_if_lcmp_eq (tgt := 31) hx hb dX4_isDue_23 dX4_isDue_24 (by decide) (fun c_4 => ?_) (fun c_4 => ?_)
      · have h := h.1 c_4
        refine lv_iconst (v := (0 : Int32)) hx hb dX4_isDue_31 (by decide) ?_
        exact W.zret (v := (0 : Int32)) (ty := .boolean) hx hb hr (by decide) (fun t ht hW => ⟨⟨(0 : Int32), (), rfl, h, x_ht ht hP⟩, hS.F ht⟩) hS.2.2 dX4_isDue_32
      · have h := h.2 c_4
        refine lv_iconst (v := (1 : Int32)) hx hb dX4_isDue_27 (by decide) ?_
        refine lv_goto (tgt := 32) hx hb dX4_isDue_28 (by decide) ?_
        exact W.zret (v := (1 : Int32)) (ty := .boolean) hx hb hr (by decide) (fun t ht hW => ⟨⟨(1 : Int32), (), rfl, h, x_ht ht hP⟩, hS.F ht⟩) hS.2.2 dX4_isDue_32
abbrev rmX4_leastFree : Room := { frames := 0, cells := 0, slots := 0, locals := 0 }
theorem wX4_leastFree_c4 : ∀ w ∈ u_ws RX4 TX4 8, w ∈ wsX4_leastFree := by decide +kernel
theorem wX4_leastFree_f32 : Cond.fieldLink RX4 32 "DueWheels$State" "end" "I" ∈ wsX4_leastFree := by decide +kernel
theorem wX4_leastFree_k45 : Cond.constantLong RX4 45 (-2000000005) ∈ wsX4_leastFree := by decide +kernel
theorem wX4_leastFree_f11 : Cond.fieldLink RX4 11 "DueWheels$State" "dues" "[[J" ∈ wsX4_leastFree := by decide +kernel
def LX4_leastFree_2  (v : StV)   (post : Int32 → Prop) : Nat → Int32 → Prop
  | 0, _ => False
  | n + 1, x1 => (((s_en v) ≤ x1 → post (s_en v)) ∧ (¬ (s_en v) ≤ x1 → (vp_in x1 200 ∧ (((s_du v 0 (x1.toNatClampNeg)) = (-2000000005 : Int64) → post x1) ∧ (¬ (s_du v 0 (x1.toNatClampNeg)) = (-2000000005 : Int64) → ∀ x1_4 : Int32, x1_4 = x1 + 1 → LX4_leastFree_2  v post n x1_4)))))
set_option maxHeartbeats 4000000 in
set_option maxRecDepth 100000 in
theorem kX4_leastFree_2 {p : Program} {e : Env} {s : State} {m : MethodId} {args : Array Value} {below : List Frame} {meth : Method} {c : Code} (l : Launch) (dC : Nat → ClassId) (dI : Nat → Nat → Nat) (ad : Nat → Nat) (ci : Nat → ClassId) (A : Nat → Prop) (hAD : xw_D 141 ad A) (st : Nat → StV) (v : StV) (ln : Nat → LnV) (sv : SvV) (kv : KvV) (cu : Nat) (j : Nat) (hj : j < 7)   (post : Int32 → Prop) (C0 : xC p s m args meth c cX4_leastFree 2 (some .int) RX4 wsX4_leastFree (dC, dI) (xT ci)) : ∀ (n : Nat) (x1 : Int32) (H : Heap) (locs : List Loc) (ls : Array Slot), LX4_leastFree_2  v post n x1 → va_P (dC, dI) vwCl (xw 141 ad (xc ad ci (va_up st j v) ln sv kv cu)) H → va_S A s.heap H locs → lv_has ls 2 [(0, .ref (ad (xaS j))), (1, .int x1)] → W p l e rmX4_leastFree s m args below meth c H locs 0 0 (MQ below (va_Qi (fun r9 (u : Unit) => post r9 ) (fun u t => va_P (dC, dI) vwCl (xw 141 ad (xc ad ci (va_up st j v) ln sv kv cu)) t.heap) A) args s 0 0 A) (F0 m 2 ls []) := by
  obtain ⟨hx, hb, -, hr, hlocks, hown, hts, hK⟩ := id C0
  intro n
  induction n with
  | zero =>
    intro x1 H locs ls h
    exact False.elim h
  | succ n ih =>
    intro x1 H locs ls h hP hS hl
    rw [LX4_leastFree_2] at h
    refine lv_iload_n hx hb dX4_leastFree_2 rfl (lv_at hl 1 rfl) ?_
    refine lv_aload_n hx hb dX4_leastFree_3 rfl (lv_at hl 0 rfl) ?_
    refine xr_get (D := (dC, dI)) (C := RX4) (T := TX4) (N := 8) (v := .int (s_en v)) hx hb hts wX4_leastFree_c4 hown hK hP (xaS j) (xq_S hj) (xe_S (va_up_self _ _ _)) rfl 4 (by decide) wX4_leastFree_f32 rfl rfl dX4_leastFree_4 ?_
    refine lv_icmp_ge (tgt := 33) hx hb dX4_leastFree_7 (by decide) (fun c_1 => ?_) (fun c_1 => ?_)
    · have h := h.1 c_1
      refine lv_aload_n hx hb dX4_leastFree_33 rfl (lv_at hl 0 rfl) ?_
      refine xr_get (D := (dC, dI)) (C := RX4) (T := TX4) (N := 8) (v := .int (s_en v)) hx hb hts wX4_leastFree_c4 hown hK hP (xaS j) (xq_S hj) (xe_S (va_up_self _ _ _)) rfl 4 (by decide) wX4_leastFree_f32 rfl rfl dX4_leastFree_34 ?_
      exact W.iret (v := (s_en v)) hx hb hr (fun t ht hW => ⟨⟨(s_en v), (), rfl, h, x_ht ht hP⟩, hS.F ht⟩) hS.2.2 dX4_leastFree_37
    · have h := h.2 c_1
      refine lv_aload_n hx hb dX4_leastFree_10 rfl (lv_at hl 0 rfl) ?_
      refine xr_get (D := (dC, dI)) (C := RX4) (T := TX4) (N := 8) (v := .ref (ad (xaD0 j))) hx hb hts wX4_leastFree_c4 hown hK hP (xaS j) (xq_S hj) (xe_S (va_up_self _ _ _)) rfl 6 (by decide) wX4_leastFree_f11 rfl rfl dX4_leastFree_11 ?_
      refine lv_iconst (v := (0 : Int32)) hx hb dX4_leastFree_14 (by decide) ?_
      refine xr_aald (k := 0) (b := ad (xaD j 0)) hx hb hK hP (xaD0 j) 4 (xq_D0 hj) xe_D0 rfl rfl rfl (x_in _ _ (by decide)) rfl dX4_leastFree_15 ?_
      refine lv_iload_n hx hb dX4_leastFree_16 rfl (lv_at hl 1 rfl) ?_
      obtain ⟨g_2, h⟩ := h
      refine xr_lald (k := x1.toNatClampNeg) hx hb hK hP (xaD j 0) 1 (xq_D hj (by decide)) (xe_D (by decide) (va_up_self _ _ _)) rfl rfl g_2 dX4_leastFree_17 ?_
      refine lv_ldc2 (v := (-2000000005 : Int64)) hx hb hown (hts _ wX4_leastFree_k45) dX4_leastFree_18 ?_
      refine xr_if_lcmp_ne (tgt := 27) hx hb dX4_leastFree_21 dX4_leastFree_22 (by decide) (fun c_3 => ?_) (fun c_3 => ?_)
      · have h := h.2 c_3
        obtain ⟨x1_4, ex1_4⟩ : ∃ z : Int32, z = x1 + 1 := ⟨_, rfl⟩
        have h := h x1_4 ex1_4
        refine lv_iinc (v := x1_4) (lv' := [(1, .int x1_4), (0, .ref (ad (xaS j)))]) hx hb dX4_leastFree_27 hl (k := 1) rfl (by rw [ex1_4]; rfl) (by decide) rfl (fun ls hl => ?_)
        refine lv_goto (tgt := 2) hx hb dX4_leastFree_30 (by decide) ?_
        exact ih x1_4 _ _ _ h hP hS (lv_sub hl [1, 0] rfl)
      · have h := h.1 c_3
        refine lv_iload_n hx hb dX4_leastFree_25 rfl (lv_at hl 1 rfl) ?_
        exact W.iret (v := x1) hx hb hr (fun t ht hW => ⟨⟨x1, (), rfl, h, x_ht ht hP⟩, hS.F ht⟩) hS.2.2 dX4_leastFree_26
def PX4_leastFree  (v : StV)  (post : Int32 → Prop) : Prop :=
  (∃ n_5 : Nat, LX4_leastFree_2  v  post n_5 (0 : Int32))
set_option maxHeartbeats 4000000 in
set_option maxRecDepth 100000 in
theorem qX4_leastFree (l : Launch) (dC : Nat → ClassId) (dI : Nat → Nat → Nat) (ad : Nat → Nat) (ci : Nat → ClassId) (A : Nat → Prop) (hAD : xw_D 141 ad A) (st : Nat → StV) (v : StV) (ln : Nat → LnV) (sv : SvV) (kv : KvV) (cu : Nat) (j : Nat) (hj : j < 7)  (post : Int32 → Prop) (h : PX4_leastFree v post) : Met l yX4_leastFree wsX4_leastFree rmX4_leastFree (va_Pc [.ref (ad (xaS j))] (fun U => va_P (dC, dI) vwCl (xw 141 ad (xc ad ci (va_up st j v) ln sv kv cu)) U.heap ∧ va_K (dC, dI) vwCl (xT ci) U)) (va_Qi (fun r9 (u : Unit) => post r9 ) (fun u t => va_P (dC, dI) vwCl (xw 141 ad (xc ad ci (va_up st j v) ln sv kv cu)) t.heap) A) 0 0 A := by
  refine Met.ofW (cc := cX4_leastFree) (maxL := 2) (ret := (some .int)) (by decide) rfl ?_
  intro p e s m args below meth c s₁ B hml hv
  obtain ⟨eargs, hP, hK⟩ := hv
  have C0 : xC p s m args meth c cX4_leastFree 2 (some .int) RX4 wsX4_leastFree (dC, dI) (xT ci) := ⟨B.exec, B.bytes, hml, B.returns, B.notSynchronized, findClass_of_methodNamed B.named, atoms_spec (ws := wsX4_leastFree) B.pre, hK⟩
  obtain ⟨hx, hb, -, hr, hlocks, hown, hts, -⟩ := id C0
  have hS : va_S A s.heap s.heap [] := va_S.rf
  have hl := lv_entry ([.ref (ad (xaS j))]) (n := 2) (Nat.le_of_ble_eq_true rfl)
  have ef : entryFrame m args 2 = entryFrame m ([.ref (ad (xaS j))] : List Value).toArray 2 := by rw [eargs]
  rw [ef, lg_entry_eq]
  generalize (lg_sl ([.ref (ad (xaS j))]) ++ List.replicate (2 - (lg_sl ([.ref (ad (xaS j))])).length) Slot.unset).toArray = ls at hl ⊢
  have hl : lv_has ls 2 [(0, .ref (ad (xaS j)))] := hl
  have hP : va_P (dC, dI) vwCl (xw 141 ad (xc ad ci (va_up st j v) ln sv kv cu)) s.heap := hP
  unfold PX4_leastFree at h
  refine lv_iconst (v := (0 : Int32)) hx hb dX4_leastFree_0 (by decide) ?_
  refine lv_istore_n (lv' := [(1, .int (0 : Int32)), (0, .ref (ad (xaS j)))]) hx hb dX4_leastFree_1 rfl hl (by decide) rfl (fun ls hl => ?_)
  obtain ⟨n_5, h⟩ := h
  exact kX4_leastFree_2 l dC dI ad ci A hAD st v ln sv kv cu j hj    post C0  n_5 (0 : Int32) _ _ _ h hP hS (lv_sub hl [1, 0] rfl)
abbrev rmX4_isFull : Room := { frames := 1, cells := 0, slots := 0, locals := 21 }
def PX4_isFull  (v : StV)  (post : Int32 → Prop) : Prop :=
  (PX4_leastFree v (fun (r_1 : Int32) => ((r_1 < (200 : Int32) → post (0 : Int32)) ∧ (¬ r_1 < (200 : Int32) → post (1 : Int32)))))
set_option maxHeartbeats 4000000 in
set_option maxRecDepth 100000 in
theorem qX4_isFull (l : Launch) (dC : Nat → ClassId) (dI : Nat → Nat → Nat) (ad : Nat → Nat) (ci : Nat → ClassId) (A : Nat → Prop) (hAD : xw_D 141 ad A) (st : Nat → StV) (v : StV) (ln : Nat → LnV) (sv : SvV) (kv : KvV) (cu : Nat) (j : Nat) (hj : j < 7)  (post : Int32 → Prop) (h : PX4_isFull v post) : Met l yX4_isFull wsX4_isFull rmX4_isFull (va_Pc [.ref (ad (xaS j))] (fun U => va_P (dC, dI) vwCl (xw 141 ad (xc ad ci (va_up st j v) ln sv kv cu)) U.heap ∧ va_K (dC, dI) vwCl (xT ci) U)) (va_Qi (fun r9 (u : Unit) => post r9 ) (fun u t => va_P (dC, dI) vwCl (xw 141 ad (xc ad ci (va_up st j v) ln sv kv cu)) t.heap) A) 0 0 A := by
  refine Met.ofW (cc := cX4_isFull) (maxL := 1) (ret := (some .boolean)) (by decide) rfl ?_
  intro p e s m args below meth c s₁ B hml hv
  obtain ⟨eargs, hP, hK⟩ := hv
  have C0 : xC p s m args meth c cX4_isFull 1 (some .boolean) RX4 wsX4_isFull (dC, dI) (xT ci) := ⟨B.exec, B.bytes, hml, B.returns, B.notSynchronized, findClass_of_methodNamed B.named, atoms_spec (ws := wsX4_isFull) B.pre, hK⟩
  obtain ⟨hx, hb, -, hr, hlocks, hown, hts, -⟩ := id C0
  have hS : va_S A s.heap s.heap [] := va_S.rf
  have hl := lv_entry ([.ref (ad (xaS j))]) (n := 1) (Nat.le_of_ble_eq_true rfl)
  have ef : entryFrame m args 1 = entryFrame m ([.ref (ad (xaS j))] : List Value).toArray 1 := by rw [eargs]
  rw [ef, lg_entry_eq]
  generalize (lg_sl ([.ref (ad (xaS j))]) ++ List.replicate (1 - (lg_sl ([.ref (ad (xaS j))])).length) Slot.unset).toArray = ls at hl ⊢
  have hl : lv_has ls 1 [(0, .ref (ad (xaS j)))] := hl
  have hP : va_P (dC, dI) vwCl (xw 141 ad (xc ad ci (va_up st j v) ln sv kv cu)) s.heap := hP
  unfold PX4_isFull at h
  refine lv_aload_n hx hb dX4_isFull_0 rfl (lv_at hl 0 rfl) ?_
  refine va_calli (va_runV (As := []) (rest := []) ⟨hx, hb, C0.2.2.1, hown, hts⟩ (qX4_leastFree l dC dI ad ci A hAD st v ln sv kv cu j hj  _ h) (cwV 0 hts gX4_isFull_X4_leastFree rfl rfl rfl (by decide +kernel) ⟨Nat.le_of_ble_eq_true rfl, Nat.le_of_ble_eq_true rfl⟩) ⟨xr_blind, xr_recv (r := (RX4, TX4, 8)) hK hP (xaS j) (xq_S hj) (xe_S (va_up_self _ _ _)) rfl, xr_pre hP hK⟩ rfl rfl hl.1 rfl (lv_room (Nat.le_of_ble_eq_true rfl)) dX4_isFull_1 ⟨Nat.zero_le _, Nat.zero_le _⟩) hS (fun _ _ h => h) (fun _ h => h) (fun r_1 _ t9 H locs ht hvm h hB _ _ hS => ?_)
  refine W.cs (cells' := 0) (slots' := 0) rfl rfl ?_
  have hP := x_th ht hB
  have hP : va_P (dC, dI) vwCl (xw 141 ad (xc ad ci (va_up st j v) ln sv kv cu)) H := hP
  refine lv_sipush (v := (200 : Int32)) hx hb dX4_isFull_4 (by decide) ?_
  refine lv_icmp_lt (tgt := 14) hx hb dX4_isFull_7 (by decide) (fun c_2 => ?_) (fun c_2 => ?_)
  · have h := h.1 c_2
    refine lv_iconst (v := (0 : Int32)) hx hb dX4_isFull_14 (by decide) ?_
    exact W.zret (v := (0 : Int32)) (ty := .boolean) hx hb hr (by decide) (fun t ht hW => ⟨⟨(0 : Int32), (), rfl, h, x_ht ht hP⟩, hS.F ht⟩) hS.2.2 dX4_isFull_15
  · have h := h.2 c_2
    refine lv_iconst (v := (1 : Int32)) hx hb dX4_isFull_10 (by decide) ?_
    refine lv_goto (tgt := 15) hx hb dX4_isFull_11 (by decide) ?_
    exact W.zret (v := (1 : Int32)) (ty := .boolean) hx hb hr (by decide) (fun t ht hW => ⟨⟨(1 : Int32), (), rfl, h, x_ht ht hP⟩, hS.F ht⟩) hS.2.2 dX4_isFull_15
abbrev rmX4_setPlace : Room := { frames := 0, cells := 0, slots := 0, locals := 0 }
theorem wX4_setPlace_c4 : ∀ w ∈ u_ws RX4 TX4 8, w ∈ wsX4_setPlace := by decide +kernel
theorem wX4_setPlace_f23 : Cond.fieldLink RX4 23 "DueWheels$State" "places" "J" ∈ wsX4_setPlace := by decide +kernel
theorem wX4_setPlace_f11 : Cond.fieldLink RX4 11 "DueWheels$State" "dues" "[[J" ∈ wsX4_setPlace := by decide +kernel
def PX4_setPlace  (v : StV) (x1 : Int32) (post : StV → Prop) : Prop :=
  (vp_in x1 200 ∧ (∀ v_2 : StV, v_2 = s_wdu v 8 (x1.toNatClampNeg) (s_pl v) → ∀ v_3 : StV, v_3 = s_wpl v_2 ((s_pl v_2) + (1 : Int64)) → post v_3))
set_option maxHeartbeats 4000000 in
set_option maxRecDepth 100000 in
theorem qX4_setPlace (l : Launch) (dC : Nat → ClassId) (dI : Nat → Nat → Nat) (ad : Nat → Nat) (ci : Nat → ClassId) (A : Nat → Prop) (hAD : xw_D 141 ad A) (st : Nat → StV) (v : StV) (ln : Nat → LnV) (sv : SvV) (kv : KvV) (cu : Nat) (j : Nat) (hj : j < 7) (x1 : Int32) (post : StV → Prop) (h : PX4_setPlace v x1 post) : Met l yX4_setPlace wsX4_setPlace rmX4_setPlace (va_Pc [.ref (ad (xaS j)), .int x1] (fun U => va_P (dC, dI) vwCl (xw 141 ad (xc ad ci (va_up st j v) ln sv kv cu)) U.heap ∧ va_K (dC, dI) vwCl (xT ci) U)) (va_Qv (fun u : StV => post u) (fun u t => va_P (dC, dI) vwCl (xw 141 ad (xc ad ci (va_up st j u) ln sv kv cu)) t.heap) A) 0 0 A := by
  refine Met.ofW (cc := cX4_setPlace) (maxL := 2) (ret := none) (by decide) rfl ?_
  intro p e s m args below meth c s₁ B hml hv
  obtain ⟨eargs, hP, hK⟩ := hv
  have C0 : xC p s m args meth c cX4_setPlace 2 none RX4 wsX4_setPlace (dC, dI) (xT ci) := ⟨B.exec, B.bytes, hml, B.returns, B.notSynchronized, findClass_of_methodNamed B.named, atoms_spec (ws := wsX4_setPlace) B.pre, hK⟩
  obtain ⟨hx, hb, -, hr, hlocks, hown, hts, -⟩ := id C0
  have hS : va_S A s.heap s.heap [] := va_S.rf
  have hl := lv_entry ([.ref (ad (xaS j)), .int x1]) (n := 2) (Nat.le_of_ble_eq_true rfl)
  have ef : entryFrame m args 2 = entryFrame m ([.ref (ad (xaS j)), .int x1] : List Value).toArray 2 := by rw [eargs]
  rw [ef, lg_entry_eq]
  generalize (lg_sl ([.ref (ad (xaS j)), .int x1]) ++ List.replicate (2 - (lg_sl ([.ref (ad (xaS j)), .int x1])).length) Slot.unset).toArray = ls at hl ⊢
  have hl : lv_has ls 2 [(0, .ref (ad (xaS j))), (1, .int x1)] := hl
  have hP : va_P (dC, dI) vwCl (xw 141 ad (xc ad ci (va_up st j v) ln sv kv cu)) s.heap := hP
  unfold PX4_setPlace at h
  refine lv_aload_n hx hb dX4_setPlace_0 rfl (lv_at hl 0 rfl) ?_
  refine xr_get (D := (dC, dI)) (C := RX4) (T := TX4) (N := 8) (v := .ref (ad (xaD0 j))) hx hb hts wX4_setPlace_c4 hown hK hP (xaS j) (xq_S hj) (xe_S (va_up_self _ _ _)) rfl 6 (by decide) wX4_setPlace_f11 rfl rfl dX4_setPlace_1 ?_
  refine lv_bipush (v := (8 : Int32)) hx hb dX4_setPlace_4 (by decide) ?_
  refine xr_aald (k := 8) (b := ad (xaD j 8)) hx hb hK hP (xaD0 j) 4 (xq_D0 hj) xe_D0 rfl rfl rfl (x_in _ _ (by decide)) rfl dX4_setPlace_6 ?_
  refine lv_iload_n hx hb dX4_setPlace_7 rfl (lv_at hl 1 rfl) ?_
  refine lv_aload_n hx hb dX4_setPlace_8 rfl (lv_at hl 0 rfl) ?_
  refine xr_get (D := (dC, dI)) (C := RX4) (T := TX4) (N := 8) (v := .long (s_pl v)) hx hb hts wX4_setPlace_c4 hown hK hP (xaS j) (xq_S hj) (xe_S (va_up_self _ _ _)) rfl 1 (by decide) wX4_setPlace_f23 rfl rfl dX4_setPlace_9 ?_
  obtain ⟨g_1, h⟩ := h
  obtain ⟨v_2, ev_2⟩ : ∃ z : StV, z = s_wdu v 8 (x1.toNatClampNeg) (s_pl v) := ⟨_, rfl⟩
  have h := h v_2 ev_2
  refine xr_last (k := x1.toNatClampNeg) (x := (s_pl v)) (g := (xc ad ci (va_up st j v_2) ln sv kv cu)) hx hb hK hP hAD hS (xaD j 8) 1 (xq_D hj (by decide)) (xe_D (by decide) (va_up_self _ _ _)) rfl rfl g_1 dX4_setPlace_12 (xg_du (by decide) (va_up_self _ _ _) (by rw [ev_2]; exact bx_uu _ _ _ _)) (fun H locs hP hS => ?_)
  refine lv_aload_n hx hb dX4_setPlace_13 rfl (lv_at hl 0 rfl) ?_
  refine lv_dup hx hb dX4_setPlace_14 rfl ?_
  refine xr_get (D := (dC, dI)) (C := RX4) (T := TX4) (N := 8) (v := .long (s_pl v_2)) hx hb hts wX4_setPlace_c4 hown hK hP (xaS j) (xq_S hj) (xe_S (va_up_self _ _ _)) rfl 1 (by decide) wX4_setPlace_f23 rfl rfl dX4_setPlace_15 ?_
  refine lv_lconst (v := (1 : Int64)) hx hb dX4_setPlace_18 (by decide) ?_
  refine lv_ladd hx hb dX4_setPlace_19 ?_
  obtain ⟨v_3, ev_3⟩ : ∃ z : StV, z = s_wpl v_2 ((s_pl v_2) + (1 : Int64)) := ⟨_, rfl⟩
  have h := h v_3 ev_3
  refine xr_put (D := (dC, dI)) (C := RX4) (T := TX4) (N := 8) (ty := .long) (v := .long ((s_pl v_2) + (1 : Int64))) (g := (xc ad ci (va_up st j v_3) ln sv kv cu)) hx hb hts wX4_setPlace_c4 tyX4 tyX4_ok nmX4 hown hK hP hAD hS (xaS j) (xq_S hj) (xe_S (va_up_self _ _ _)) rfl 1 (by decide) wX4_setPlace_f23 rfl rfl (by decide +kernel) rfl rfl (Nat.le_of_ble_eq_true rfl) dX4_setPlace_20 (xg_pl (va_up_self _ _ _) (by rw [ev_3]; exact bx_uu _ _ _ _)) (fun H locs hP hS => ?_)
  exact W.vret hx hb hr (fun t ht hW => ⟨⟨v_3, rfl, h, x_ht ht hP⟩, hS.F ht⟩) hS.2.2 dX4_setPlace_23
abbrev rmX4_open : Room := { frames := 1, cells := 0, slots := 0, locals := 22 }
theorem wX4_open_c4 : ∀ w ∈ u_ws RX4 TX4 8, w ∈ wsX4_open := by decide +kernel
theorem wX4_open_f11 : Cond.fieldLink RX4 11 "DueWheels$State" "dues" "[[J" ∈ wsX4_open := by decide +kernel
theorem wX4_open_f32 : Cond.fieldLink RX4 32 "DueWheels$State" "end" "I" ∈ wsX4_open := by decide +kernel
def PX4_open  (v : StV) (x1 : Int32) (x2 : Int32) (post : Int32 → StV → Prop) : Prop :=
  (PX4_leastFree v (fun (r_1 : Int32) => ((r_1 = (s_en v) → ∀ v_9 : StV, v_9 = s_wen v ((s_en v) + (1 : Int32)) → (PX4_clear v_9 r_1 (fun (v_10 : StV) => (vp_in r_1 200 ∧ (∀ v_12 : StV, v_12 = s_wdu v_10 0 (r_1.toNatClampNeg) (x1.toInt64) → (vp_in r_1 200 ∧ (∀ v_14 : StV, v_14 = s_wdu v_12 1 (r_1.toNatClampNeg) (x2.toInt64) → (PX4_setPlace v_14 r_1 (fun (v_15 : StV) => post r_1 v_15))))))))) ∧ (¬ r_1 = (s_en v) → (PX4_clear v r_1 (fun (v_3 : StV) => (vp_in r_1 200 ∧ (∀ v_5 : StV, v_5 = s_wdu v_3 0 (r_1.toNatClampNeg) (x1.toInt64) → (vp_in r_1 200 ∧ (∀ v_7 : StV, v_7 = s_wdu v_5 1 (r_1.toNatClampNeg) (x2.toInt64) → (PX4_setPlace v_7 r_1 (fun (v_8 : StV) => post r_1 v_8))))))))))))
set_option maxHeartbeats 4000000 in
set_option maxRecDepth 100000 in
theorem qX4_open (l : Launch) (dC : Nat → ClassId) (dI : Nat → Nat → Nat) (ad : Nat → Nat) (ci : Nat → ClassId) (A : Nat → Prop) (hAD : xw_D 141 ad A) (st : Nat → StV) (v : StV) (ln : Nat → LnV) (sv : SvV) (kv : KvV) (cu : Nat) (j : Nat) (hj : j < 7) (x1 : Int32) (x2 : Int32) (post : Int32 → StV → Prop) (h : PX4_open v x1 x2 post) : Met l yX4_open wsX4_open rmX4_open (va_Pc [.ref (ad (xaS j)), .int x1, .int x2] (fun U => va_P (dC, dI) vwCl (xw 141 ad (xc ad ci (va_up st j v) ln sv kv cu)) U.heap ∧ va_K (dC, dI) vwCl (xT ci) U)) (va_Qi (fun r9 (u : StV) => post r9 u) (fun u t => va_P (dC, dI) vwCl (xw 141 ad (xc ad ci (va_up st j u) ln sv kv cu)) t.heap) A) 0 0 A := by
  refine Met.ofW (cc := cX4_open) (maxL := 4) (ret := (some .int)) (by decide) rfl ?_
  intro p e s m args below meth c s₁ B hml hv
  obtain ⟨eargs, hP, hK⟩ := hv
  have C0 : xC p s m args meth c cX4_open 4 (some .int) RX4 wsX4_open (dC, dI) (xT ci) := ⟨B.exec, B.bytes, hml, B.returns, B.notSynchronized, findClass_of_methodNamed B.named, atoms_spec (ws := wsX4_open) B.pre, hK⟩
  obtain ⟨hx, hb, -, hr, hlocks, hown, hts, -⟩ := id C0
  have hS : va_S A s.heap s.heap [] := va_S.rf
  have hl := lv_entry ([.ref (ad (xaS j)), .int x1, .int x2]) (n := 4) (Nat.le_of_ble_eq_true rfl)
  have ef : entryFrame m args 4 = entryFrame m ([.ref (ad (xaS j)), .int x1, .int x2] : List Value).toArray 4 := by rw [eargs]
  rw [ef, lg_entry_eq]
  generalize (lg_sl ([.ref (ad (xaS j)), .int x1, .int x2]) ++ List.replicate (4 - (lg_sl ([.ref (ad (xaS j)), .int x1, .int x2])).length) Slot.unset).toArray = ls at hl ⊢
  have hl : lv_has ls 4 [(0, .ref (ad (xaS j))), (1, .int x1), (2, .int x2)] := hl
  have hP : va_P (dC, dI) vwCl (xw 141 ad (xc ad ci (va_up st j v) ln sv kv cu)) s.heap := hP
  unfold PX4_open at h
  refine lv_aload_n hx hb dX4_open_0 rfl (lv_at hl 0 rfl) ?_
  refine va_calli (va_runV (As := []) (rest := []) ⟨hx, hb, C0.2.2.1, hown, hts⟩ (qX4_leastFree l dC dI ad ci A hAD st v ln sv kv cu j hj  _ h) (cwV 0 hts gX4_open_X4_leastFree rfl rfl rfl (by decide +kernel) ⟨Nat.le_of_ble_eq_true rfl, Nat.le_of_ble_eq_true rfl⟩) ⟨xr_blind, xr_recv (r := (RX4, TX4, 8)) hK hP (xaS j) (xq_S hj) (xe_S (va_up_self _ _ _)) rfl, xr_pre hP hK⟩ rfl rfl hl.1 rfl (lv_room (Nat.le_of_ble_eq_true rfl)) dX4_open_1 ⟨Nat.zero_le _, Nat.zero_le _⟩) hS (fun _ _ h => h) (fun _ h => h) (fun r_1 _ t9 H locs ht hvm h hB _ _ hS => ?_)
  refine W.cs (cells' := 0) (slots' := 0) rfl rfl ?_
  have hP := x_th ht hB
  have hP : va_P (dC, dI) vwCl (xw 141 ad (xc ad ci (va_up st j v) ln sv kv cu)) H := hP
  refine lv_istore_n (lv' := [(3, .int r_1), (0, .ref (ad (xaS j))), (1, .int x1), (2, .int x2)]) hx hb dX4_open_4 rfl hl (by decide) rfl (fun ls hl => ?_)
  refine lv_iload_n hx hb dX4_open_5 rfl (lv_at hl 0 rfl) ?_
  refine lv_aload_n hx hb dX4_open_6 rfl (lv_at hl 1 rfl) ?_
  refine xr_get (D := (dC, dI)) (C := RX4) (T := TX4) (N := 8) (v := .int (s_en v)) hx hb hts wX4_open_c4 hown hK hP (xaS j) (xq_S hj) (xe_S (va_up_self _ _ _)) rfl 4 (by decide) wX4_open_f32 rfl rfl dX4_open_7 ?_
  refine lv_icmp_ne (tgt := 23) hx hb dX4_open_10 (by decide) (fun c_2 => ?_) (fun c_2 => ?_)
  · have h := h.2 c_2
    refine lv_aload_n hx hb dX4_open_23 rfl (lv_at hl 1 rfl) ?_
    refine lv_iload_n hx hb dX4_open_24 rfl (lv_at hl 0 rfl) ?_
    refine va_callv (va_runV (As := [.int r_1]) (rest := []) ⟨hx, hb, C0.2.2.1, hown, hts⟩ (qX4_clear l dC dI ad ci A hAD st v ln sv kv cu j hj r_1 _ h) (cwV 1 hts gX4_open_X4_clear rfl rfl rfl (by decide +kernel) ⟨Nat.le_of_ble_eq_true rfl, Nat.le_of_ble_eq_true rfl⟩) ⟨xr_blind, xr_recv (r := (RX4, TX4, 8)) hK hP (xaS j) (xq_S hj) (xe_S (va_up_self _ _ _)) rfl, xr_pre hP hK⟩ rfl rfl hl.1 rfl (lv_room (Nat.le_of_ble_eq_true rfl)) dX4_open_25 ⟨Nat.zero_le _, Nat.zero_le _⟩) hS (fun _ _ h => h) (fun _ h => h) (fun v_3 t9 H locs ht hvm h hB _ _ hS => ?_)
    refine W.cs (cells' := 0) (slots' := 0) rfl rfl ?_
    have hP := x_th ht hB
    have hP : va_P (dC, dI) vwCl (xw 141 ad (xc ad ci (va_up st j v_3) ln sv kv cu)) H := hP
    refine lv_aload_n hx hb dX4_open_28 rfl (lv_at hl 1 rfl) ?_
    refine xr_get (D := (dC, dI)) (C := RX4) (T := TX4) (N := 8) (v := .ref (ad (xaD0 j))) hx hb hts wX4_open_c4 hown hK hP (xaS j) (xq_S hj) (xe_S (va_up_self _ _ _)) rfl 6 (by decide) wX4_open_f11 rfl rfl dX4_open_29 ?_
    refine lv_iconst (v := (0 : Int32)) hx hb dX4_open_32 (by decide) ?_
    refine xr_aald (k := 0) (b := ad (xaD j 0)) hx hb hK hP (xaD0 j) 4 (xq_D0 hj) xe_D0 rfl rfl rfl (x_in _ _ (by decide)) rfl dX4_open_33 ?_
    refine lv_iload_n hx hb dX4_open_34 rfl (lv_at hl 0 rfl) ?_
    refine lv_iload_n hx hb dX4_open_35 rfl (lv_at hl 2 rfl) ?_
    refine lv_i2l hx hb dX4_open_36 rfl ?_
    obtain ⟨g_4, h⟩ := h
    obtain ⟨v_5, ev_5⟩ : ∃ z : StV, z = s_wdu v_3 0 (r_1.toNatClampNeg) (x1.toInt64) := ⟨_, rfl⟩
    have h := h v_5 ev_5
    refine xr_last (k := r_1.toNatClampNeg) (x := (x1.toInt64)) (g := (xc ad ci (va_up st j v_5) ln sv kv cu)) hx hb hK hP hAD hS (xaD j 0) 1 (xq_D hj (by decide)) (xe_D (by decide) (va_up_self _ _ _)) rfl rfl g_4 dX4_open_37 (xg_du (by decide) (va_up_self _ _ _) (by rw [ev_5]; exact bx_uu _ _ _ _)) (fun H locs hP hS => ?_)
    refine lv_aload_n hx hb dX4_open_38 rfl (lv_at hl 1 rfl) ?_
    refine xr_get (D := (dC, dI)) (C := RX4) (T := TX4) (N := 8) (v := .ref (ad (xaD0 j))) hx hb hts wX4_open_c4 hown hK hP (xaS j) (xq_S hj) (xe_S (va_up_self _ _ _)) rfl 6 (by decide) wX4_open_f11 rfl rfl dX4_open_39 ?_
    refine lv_iconst (v := (1 : Int32)) hx hb dX4_open_42 (by decide) ?_
    refine xr_aald (k := 1) (b := ad (xaD j 1)) hx hb hK hP (xaD0 j) 4 (xq_D0 hj) xe_D0 rfl rfl rfl (x_in _ _ (by decide)) rfl dX4_open_43 ?_
    refine lv_iload_n hx hb dX4_open_44 rfl (lv_at hl 0 rfl) ?_
    refine lv_iload_n hx hb dX4_open_45 rfl (lv_at hl 3 rfl) ?_
    refine lv_i2l hx hb dX4_open_46 rfl ?_
    obtain ⟨g_6, h⟩ := h
    obtain ⟨v_7, ev_7⟩ : ∃ z : StV, z = s_wdu v_5 1 (r_1.toNatClampNeg) (x2.toInt64) := ⟨_, rfl⟩
    have h := h v_7 ev_7
    refine xr_last (k := r_1.toNatClampNeg) (x := (x2.toInt64)) (g := (xc ad ci (va_up st j v_7) ln sv kv cu)) hx hb hK hP hAD hS (xaD j 1) 1 (xq_D hj (by decide)) (xe_D (by decide) (va_up_self _ _ _)) rfl rfl g_6 dX4_open_47 (xg_du (by decide) (va_up_self _ _ _) (by rw [ev_7]; exact bx_uu _ _ _ _)) (fun H locs hP hS => ?_)
    refine lv_aload_n hx hb dX4_open_48 rfl (lv_at hl 1 rfl) ?_
    refine lv_iload_n hx hb dX4_open_49 rfl (lv_at hl 0 rfl) ?_
    refine va_callv (va_runV (As := [.int r_1]) (rest := []) ⟨hx, hb, C0.2.2.1, hown, hts⟩ (qX4_setPlace l dC dI ad ci A hAD st v_7 ln sv kv cu j hj r_1 _ h) (cwV 1 hts gX4_open_X4_setPlace rfl rfl rfl (by decide +kernel) ⟨Nat.le_of_ble_eq_true rfl, Nat.le_of_ble_eq_true rfl⟩) ⟨xr_blind, xr_recv (r := (RX4, TX4, 8)) hK hP (xaS j) (xq_S hj) (xe_S (va_up_self _ _ _)) rfl, xr_pre hP hK⟩ rfl rfl hl.1 rfl (lv_room (Nat.le_of_ble_eq_true rfl)) dX4_open_50 ⟨Nat.zero_le _, Nat.zero_le _⟩) hS (fun _ _ h => h) (fun _ h => h) (fun v_8 t9 H locs ht hvm h hB _ _ hS => ?_)
    refine W.cs (cells' := 0) (slots' := 0) rfl rfl ?_
    have hP := x_th ht hB
    have hP : va_P (dC, dI) vwCl (xw 141 ad (xc ad ci (va_up st j v_8) ln sv kv cu)) H := hP
    refine lv_iload_n hx hb dX4_open_53 rfl (lv_at hl 0 rfl) ?_
    exact W.iret (v := r_1) hx hb hr (fun t ht hW => ⟨⟨r_1, v_8, rfl, h, x_ht ht hP⟩, hS.F ht⟩) hS.2.2 dX4_open_54
  · have h := h.1 c_2
    refine lv_aload_n hx hb dX4_open_13 rfl (lv_at hl 1 rfl) ?_
    refine lv_dup hx hb dX4_open_14 rfl ?_
    refine xr_get (D := (dC, dI)) (C := RX4) (T := TX4) (N := 8) (v := .int (s_en v)) hx hb hts wX4_open_c4 hown hK hP (xaS j) (xq_S hj) (xe_S (va_up_self _ _ _)) rfl 4 (by decide) wX4_open_f32 rfl rfl dX4_open_15 ?_
    refine lv_iconst (v := (1 : Int32)) hx hb dX4_open_18 (by decide) ?_
    refine lv_iadd hx hb dX4_open_19 ?_
    obtain ⟨v_9, ev_9⟩ : ∃ z : StV, z = s_wen v ((s_en v) + (1 : Int32)) := ⟨_, rfl⟩
    have h := h v_9 ev_9
    refine xr_put (D := (dC, dI)) (C := RX4) (T := TX4) (N := 8) (ty := .int) (v := .int ((s_en v) + (1 : Int32))) (g := (xc ad ci (va_up st j v_9) ln sv kv cu)) hx hb hts wX4_open_c4 tyX4 tyX4_ok nmX4 hown hK hP hAD hS (xaS j) (xq_S hj) (xe_S (va_up_self _ _ _)) rfl 4 (by decide) wX4_open_f32 rfl rfl (by decide +kernel) rfl rfl (Nat.le_of_ble_eq_true rfl) dX4_open_20 (xg_en (va_up_self _ _ _) (by rw [ev_9]; exact bx_uu _ _ _ _)) (fun H locs hP hS => ?_)
    refine lv_aload_n hx hb dX4_open_23 rfl (lv_at hl 1 rfl) ?_
    refine lv_iload_n hx hb dX4_open_24 rfl (lv_at hl 0 rfl) ?_
    refine va_callv (va_runV (As := [.int r_1]) (rest := []) ⟨hx, hb, C0.2.2.1, hown, hts⟩ (qX4_clear l dC dI ad ci A hAD st v_9 ln sv kv cu j hj r_1 _ h) (cwV 1 hts gX4_open_X4_clear rfl rfl rfl (by decide +kernel) ⟨Nat.le_of_ble_eq_true rfl, Nat.le_of_ble_eq_true rfl⟩) ⟨xr_blind, xr_recv (r := (RX4, TX4, 8)) hK hP (xaS j) (xq_S hj) (xe_S (va_up_self _ _ _)) rfl, xr_pre hP hK⟩ rfl rfl hl.1 rfl (lv_room (Nat.le_of_ble_eq_true rfl)) dX4_open_25 ⟨Nat.zero_le _, Nat.zero_le _⟩) hS (fun _ _ h => h) (fun _ h => h) (fun v_10 t9 H locs ht hvm h hB _ _ hS => ?_)
    refine W.cs (cells' := 0) (slots' := 0) rfl rfl ?_
    have hP := x_th ht hB
    have hP : va_P (dC, dI) vwCl (xw 141 ad (xc ad ci (va_up st j v_10) ln sv kv cu)) H := hP
    refine lv_aload_n hx hb dX4_open_28 rfl (lv_at hl 1 rfl) ?_
    refine xr_get (D := (dC, dI)) (C := RX4) (T := TX4) (N := 8) (v := .ref (ad (xaD0 j))) hx hb hts wX4_open_c4 hown hK hP (xaS j) (xq_S hj) (xe_S (va_up_self _ _ _)) rfl 6 (by decide) wX4_open_f11 rfl rfl dX4_open_29 ?_
    refine lv_iconst (v := (0 : Int32)) hx hb dX4_open_32 (by decide) ?_
    refine xr_aald (k := 0) (b := ad (xaD j 0)) hx hb hK hP (xaD0 j) 4 (xq_D0 hj) xe_D0 rfl rfl rfl (x_in _ _ (by decide)) rfl dX4_open_33 ?_
    refine lv_iload_n hx hb dX4_open_34 rfl (lv_at hl 0 rfl) ?_
    refine lv_iload_n hx hb dX4_open_35 rfl (lv_at hl 2 rfl) ?_
    refine lv_i2l hx hb dX4_open_36 rfl ?_
    obtain ⟨g_11, h⟩ := h
    obtain ⟨v_12, ev_12⟩ : ∃ z : StV, z = s_wdu v_10 0 (r_1.toNatClampNeg) (x1.toInt64) := ⟨_, rfl⟩
    have h := h v_12 ev_12
    refine xr_last (k := r_1.toNatClampNeg) (x := (x1.toInt64)) (g := (xc ad ci (va_up st j v_12) ln sv kv cu)) hx hb hK hP hAD hS (xaD j 0) 1 (xq_D hj (by decide)) (xe_D (by decide) (va_up_self _ _ _)) rfl rfl g_11 dX4_open_37 (xg_du (by decide) (va_up_self _ _ _) (by rw [ev_12]; exact bx_uu _ _ _ _)) (fun H locs hP hS => ?_)
    refine lv_aload_n hx hb dX4_open_38 rfl (lv_at hl 1 rfl) ?_
    refine xr_get (D := (dC, dI)) (C := RX4) (T := TX4) (N := 8) (v := .ref (ad (xaD0 j))) hx hb hts wX4_open_c4 hown hK hP (xaS j) (xq_S hj) (xe_S (va_up_self _ _ _)) rfl 6 (by decide) wX4_open_f11 rfl rfl dX4_open_39 ?_
    refine lv_iconst (v := (1 : Int32)) hx hb dX4_open_42 (by decide) ?_
    refine xr_aald (k := 1) (b := ad (xaD j 1)) hx hb hK hP (xaD0 j) 4 (xq_D0 hj) xe_D0 rfl rfl rfl (x_in _ _ (by decide)) rfl dX4_open_43 ?_
    refine lv_iload_n hx hb dX4_open_44 rfl (lv_at hl 0 rfl) ?_
    refine lv_iload_n hx hb dX4_open_45 rfl (lv_at hl 3 rfl) ?_
    refine lv_i2l hx hb dX4_open_46 rfl ?_
    obtain ⟨g_13, h⟩ := h
    obtain ⟨v_14, ev_14⟩ : ∃ z : StV, z = s_wdu v_12 1 (r_1.toNatClampNeg) (x2.toInt64) := ⟨_, rfl⟩
    have h := h v_14 ev_14
    refine xr_last (k := r_1.toNatClampNeg) (x := (x2.toInt64)) (g := (xc ad ci (va_up st j v_14) ln sv kv cu)) hx hb hK hP hAD hS (xaD j 1) 1 (xq_D hj (by decide)) (xe_D (by decide) (va_up_self _ _ _)) rfl rfl g_13 dX4_open_47 (xg_du (by decide) (va_up_self _ _ _) (by rw [ev_14]; exact bx_uu _ _ _ _)) (fun H locs hP hS => ?_)
    refine lv_aload_n hx hb dX4_open_48 rfl (lv_at hl 1 rfl) ?_
    refine lv_iload_n hx hb dX4_open_49 rfl (lv_at hl 0 rfl) ?_
    refine va_callv (va_runV (As := [.int r_1]) (rest := []) ⟨hx, hb, C0.2.2.1, hown, hts⟩ (qX4_setPlace l dC dI ad ci A hAD st v_14 ln sv kv cu j hj r_1 _ h) (cwV 1 hts gX4_open_X4_setPlace rfl rfl rfl (by decide +kernel) ⟨Nat.le_of_ble_eq_true rfl, Nat.le_of_ble_eq_true rfl⟩) ⟨xr_blind, xr_recv (r := (RX4, TX4, 8)) hK hP (xaS j) (xq_S hj) (xe_S (va_up_self _ _ _)) rfl, xr_pre hP hK⟩ rfl rfl hl.1 rfl (lv_room (Nat.le_of_ble_eq_true rfl)) dX4_open_50 ⟨Nat.zero_le _, Nat.zero_le _⟩) hS (fun _ _ h => h) (fun _ h => h) (fun v_15 t9 H locs ht hvm h hB _ _ hS => ?_)
    refine W.cs (cells' := 0) (slots' := 0) rfl rfl ?_
    have hP := x_th ht hB
    have hP : va_P (dC, dI) vwCl (xw 141 ad (xc ad ci (va_up st j v_15) ln sv kv cu)) H := hP
    refine lv_iload_n hx hb dX4_open_53 rfl (lv_at hl 0 rfl) ?_
    exact W.iret (v := r_1) hx hb hr (fun t ht hW => ⟨⟨r_1, v_15, rfl, h, x_ht ht hP⟩, hS.F ht⟩) hS.2.2 dX4_open_54
abbrev rmX4_isBehind : Room := { frames := 0, cells := 0, slots := 0, locals := 0 }
theorem wX4_isBehind_c4 : ∀ w ∈ u_ws RX4 TX4 8, w ∈ wsX4_isBehind := by decide +kernel
theorem wX4_isBehind_f11 : Cond.fieldLink RX4 11 "DueWheels$State" "dues" "[[J" ∈ wsX4_isBehind := by decide +kernel
theorem wX4_isBehind_f32 : Cond.fieldLink RX4 32 "DueWheels$State" "end" "I" ∈ wsX4_isBehind := by decide +kernel
def LX4_isBehind_6  (v : StV) (x2 : Int32)  (post : Int32 → Prop) : Nat → Int64 → Int32 → Prop
  | 0, _, _ => False
  | n + 1, x3, x5 => (((200 : Int32) ≤ x5 → post (0 : Int32)) ∧ (¬ (200 : Int32) ≤ x5 → ((x3 < (0 : Int64) → post (0 : Int32)) ∧ (¬ x3 < (0 : Int64) → ((((s_en v).toInt64) ≤ x3 → post (0 : Int32)) ∧ (¬ ((s_en v).toInt64) ≤ x3 → ((x3 = (x2.toInt64) → post (1 : Int32)) ∧ (¬ x3 = (x2.toInt64) → (vp_in (x3.toInt32) 200 ∧ ∀ x3_7 : Int64, x3_7 = (s_du v 6 ((x3.toInt32).toNatClampNeg)) → ∀ x5_8 : Int32, x5_8 = x5 + 1 → LX4_isBehind_6  v x2 post n x3_7 x5_8)))))))))
set_option maxHeartbeats 4000000 in
set_option maxRecDepth 100000 in
theorem kX4_isBehind_6 {p : Program} {e : Env} {s : State} {m : MethodId} {args : Array Value} {below : List Frame} {meth : Method} {c : Code} (l : Launch) (dC : Nat → ClassId) (dI : Nat → Nat → Nat) (ad : Nat → Nat) (ci : Nat → ClassId) (A : Nat → Prop) (hAD : xw_D 141 ad A) (st : Nat → StV) (v : StV) (ln : Nat → LnV) (sv : SvV) (kv : KvV) (cu : Nat) (j : Nat) (hj : j < 7) (x2 : Int32)  (post : Int32 → Prop) (C0 : xC p s m args meth c cX4_isBehind 6 (some .boolean) RX4 wsX4_isBehind (dC, dI) (xT ci)) : ∀ (n : Nat) (x3 : Int64) (x5 : Int32) (H : Heap) (locs : List Loc) (ls : Array Slot), LX4_isBehind_6  v x2 post n x3 x5 → va_P (dC, dI) vwCl (xw 141 ad (xc ad ci (va_up st j v) ln sv kv cu)) H → va_S A s.heap H locs → lv_has ls 6 [(0, .ref (ad (xaS j))), (2, .int x2), (3, .long x3), (5, .int x5)] → W p l e rmX4_isBehind s m args below meth c H locs 0 0 (MQ below (va_Qi (fun r9 (u : Unit) => post r9 ) (fun u t => va_P (dC, dI) vwCl (xw 141 ad (xc ad ci (va_up st j v) ln sv kv cu)) t.heap) A) args s 0 0 A) (F0 m 6 ls []) := by
  obtain ⟨hx, hb, -, hr, hlocks, hown, hts, hK⟩ := id C0
  intro n
  induction n with
  | zero =>
    intro x3 x5 H locs ls h
    exact False.elim h
  | succ n ih =>
    intro x3 x5 H locs ls h hP hS hl
    rw [LX4_isBehind_6] at h
    refine lv_iload hx hb dX4_isBehind_6 (lv_at hl 3 rfl) ?_
    refine lv_sipush (v := (200 : Int32)) hx hb dX4_isBehind_8 (by decide) ?_
    refine lv_icmp_ge (tgt := 56) hx hb dX4_isBehind_11 (by decide) (fun c_2 => ?_) (fun c_2 => ?_)
    · have h := h.1 c_2
      refine lv_iconst (v := (0 : Int32)) hx hb dX4_isBehind_56 (by decide) ?_
      exact W.zret (v := (0 : Int32)) (ty := .boolean) hx hb hr (by decide) (fun t ht hW => ⟨⟨(0 : Int32), (), rfl, h, x_ht ht hP⟩, hS.F ht⟩) hS.2.2 dX4_isBehind_57
    · have h := h.2 c_2
      refine lv_lload_n hx hb dX4_isBehind_14 rfl (lv_at hl 2 rfl) ?_
      refine lv_lconst (v := (0 : Int64)) hx hb dX4_isBehind_15 (by decide) ?_
      refine xr_if_lcmp_lt (tgt := 56) hx hb dX4_isBehind_16 dX4_isBehind_17 (by decide) (fun c_3 => ?_) (fun c_3 => ?_)
      · have h := h.1 c_3
        refine lv_iconst (v := (0 : Int32)) hx hb dX4_isBehind_56 (by decide) ?_
        exact W.zret (v := (0 : Int32)) (ty := .boolean) hx hb hr (by decide) (fun t ht hW => ⟨⟨(0 : Int32), (), rfl, h, x_ht ht hP⟩, hS.F ht⟩) hS.2.2 dX4_isBehind_57
      · have h := h.2 c_3
        refine lv_lload_n hx hb dX4_isBehind_20 rfl (lv_at hl 2 rfl) ?_
        refine lv_aload_n hx hb dX4_isBehind_21 rfl (lv_at hl 0 rfl) ?_
        refine xr_get (D := (dC, dI)) (C := RX4) (T := TX4) (N := 8) (v := .int (s_en v)) hx hb hts wX4_isBehind_c4 hown hK hP (xaS j) (xq_S hj) (xe_S (va_up_self _ _ _)) rfl 4 (by decide) wX4_isBehind_f32 rfl rfl dX4_isBehind_22 ?_
        refine lv_i2l hx hb dX4_isBehind_25 rfl ?_
        refine xr_if_lcmp_ge (tgt := 56) hx hb dX4_isBehind_26 dX4_isBehind_27 (by decide) (fun c_4 => ?_) (fun c_4 => ?_)
        · have h := h.1 c_4
          refine lv_iconst (v := (0 : Int32)) hx hb dX4_isBehind_56 (by decide) ?_
          exact W.zret (v := (0 : Int32)) (ty := .boolean) hx hb hr (by decide) (fun t ht hW => ⟨⟨(0 : Int32), (), rfl, h, x_ht ht hP⟩, hS.F ht⟩) hS.2.2 dX4_isBehind_57
        · have h := h.2 c_4
          refine lv_lload_n hx hb dX4_isBehind_30 rfl (lv_at hl 2 rfl) ?_
          refine lv_iload_n hx hb dX4_isBehind_31 rfl (lv_at hl 1 rfl) ?_
          refine lv_i2l hx hb dX4_isBehind_32 rfl ?_
          refine xr_if_lcmp_ne (tgt := 39) hx hb dX4_isBehind_33 dX4_isBehind_34 (by decide) (fun c_5 => ?_) (fun c_5 => ?_)
          · have h := h.2 c_5
            refine lv_aload_n hx hb dX4_isBehind_39 rfl (lv_at hl 0 rfl) ?_
            refine xr_get (D := (dC, dI)) (C := RX4) (T := TX4) (N := 8) (v := .ref (ad (xaD0 j))) hx hb hts wX4_isBehind_c4 hown hK hP (xaS j) (xq_S hj) (xe_S (va_up_self _ _ _)) rfl 6 (by decide) wX4_isBehind_f11 rfl rfl dX4_isBehind_40 ?_
            refine lv_bipush (v := (6 : Int32)) hx hb dX4_isBehind_43 (by decide) ?_
            refine xr_aald (k := 6) (b := ad (xaD j 6)) hx hb hK hP (xaD0 j) 4 (xq_D0 hj) xe_D0 rfl rfl rfl (x_in _ _ (by decide)) rfl dX4_isBehind_45 ?_
            refine lv_lload_n hx hb dX4_isBehind_46 rfl (lv_at hl 2 rfl) ?_
            refine lv_l2i hx hb dX4_isBehind_47 rfl ?_
            obtain ⟨g_6, h⟩ := h
            refine xr_lald (k := (x3.toInt32).toNatClampNeg) hx hb hK hP (xaD j 6) 1 (xq_D hj (by decide)) (xe_D (by decide) (va_up_self _ _ _)) rfl rfl g_6 dX4_isBehind_48 ?_
            refine lv_topl (fun x3_7 ex3_7 => ?_)
            have h := h x3_7 ex3_7
            refine lv_lstore_n (lv' := [(3, .long x3_7), (0, .ref (ad (xaS j))), (2, .int x2), (5, .int x5)]) hx hb dX4_isBehind_49 rfl hl (by decide) rfl (fun ls hl => ?_)
            obtain ⟨x5_8, ex5_8⟩ : ∃ z : Int32, z = x5 + 1 := ⟨_, rfl⟩
            have h := h x5_8 ex5_8
            refine lv_iinc (v := x5_8) (lv' := [(5, .int x5_8), (3, .long x3_7), (0, .ref (ad (xaS j))), (2, .int x2)]) hx hb dX4_isBehind_50 hl (k := 3) rfl (by rw [ex5_8]; rfl) (by decide) rfl (fun ls hl => ?_)
            refine lv_goto (tgt := 6) hx hb dX4_isBehind_53 (by decide) ?_
            exact ih x3_7 x5_8 _ _ _ h hP hS (lv_sub hl [2, 3, 1, 0] rfl)
          · have h := h.1 c_5
            refine lv_iconst (v := (1 : Int32)) hx hb dX4_isBehind_37 (by decide) ?_
            exact W.zret (v := (1 : Int32)) (ty := .boolean) hx hb hr (by decide) (fun t ht hW => ⟨⟨(1 : Int32), (), rfl, h, x_ht ht hP⟩, hS.F ht⟩) hS.2.2 dX4_isBehind_38
def PX4_isBehind  (v : StV) (x1 : Int32) (x2 : Int32) (post : Int32 → Prop) : Prop :=
  ∀ x3_1 : Int64, x3_1 = (x1.toInt64) → (∃ n_9 : Nat, LX4_isBehind_6  v x2  post n_9 x3_1 (0 : Int32))
set_option maxHeartbeats 4000000 in
set_option maxRecDepth 100000 in
theorem qX4_isBehind (l : Launch) (dC : Nat → ClassId) (dI : Nat → Nat → Nat) (ad : Nat → Nat) (ci : Nat → ClassId) (A : Nat → Prop) (hAD : xw_D 141 ad A) (st : Nat → StV) (v : StV) (ln : Nat → LnV) (sv : SvV) (kv : KvV) (cu : Nat) (j : Nat) (hj : j < 7) (x1 : Int32) (x2 : Int32) (post : Int32 → Prop) (h : PX4_isBehind v x1 x2 post) : Met l yX4_isBehind wsX4_isBehind rmX4_isBehind (va_Pc [.ref (ad (xaS j)), .int x1, .int x2] (fun U => va_P (dC, dI) vwCl (xw 141 ad (xc ad ci (va_up st j v) ln sv kv cu)) U.heap ∧ va_K (dC, dI) vwCl (xT ci) U)) (va_Qi (fun r9 (u : Unit) => post r9 ) (fun u t => va_P (dC, dI) vwCl (xw 141 ad (xc ad ci (va_up st j v) ln sv kv cu)) t.heap) A) 0 0 A := by
  refine Met.ofW (cc := cX4_isBehind) (maxL := 6) (ret := (some .boolean)) (by decide) rfl ?_
  intro p e s m args below meth c s₁ B hml hv
  obtain ⟨eargs, hP, hK⟩ := hv
  have C0 : xC p s m args meth c cX4_isBehind 6 (some .boolean) RX4 wsX4_isBehind (dC, dI) (xT ci) := ⟨B.exec, B.bytes, hml, B.returns, B.notSynchronized, findClass_of_methodNamed B.named, atoms_spec (ws := wsX4_isBehind) B.pre, hK⟩
  obtain ⟨hx, hb, -, hr, hlocks, hown, hts, -⟩ := id C0
  have hS : va_S A s.heap s.heap [] := va_S.rf
  have hl := lv_entry ([.ref (ad (xaS j)), .int x1, .int x2]) (n := 6) (Nat.le_of_ble_eq_true rfl)
  have ef : entryFrame m args 6 = entryFrame m ([.ref (ad (xaS j)), .int x1, .int x2] : List Value).toArray 6 := by rw [eargs]
  rw [ef, lg_entry_eq]
  generalize (lg_sl ([.ref (ad (xaS j)), .int x1, .int x2]) ++ List.replicate (6 - (lg_sl ([.ref (ad (xaS j)), .int x1, .int x2])).length) Slot.unset).toArray = ls at hl ⊢
  have hl : lv_has ls 6 [(0, .ref (ad (xaS j))), (1, .int x1), (2, .int x2)] := hl
  have hP : va_P (dC, dI) vwCl (xw 141 ad (xc ad ci (va_up st j v) ln sv kv cu)) s.heap := hP
  unfold PX4_isBehind at h
  refine lv_iload_n hx hb dX4_isBehind_0 rfl (lv_at hl 1 rfl) ?_
  refine lv_i2l hx hb dX4_isBehind_1 rfl ?_
  refine lv_topl (fun x3_1 ex3_1 => ?_)
  have h := h x3_1 ex3_1
  refine lv_lstore_n (lv' := [(3, .long x3_1), (0, .ref (ad (xaS j))), (1, .int x1), (2, .int x2)]) hx hb dX4_isBehind_2 rfl hl (by decide) rfl (fun ls hl => ?_)
  refine lv_iconst (v := (0 : Int32)) hx hb dX4_isBehind_3 (by decide) ?_
  refine lv_istore (lv' := [(5, .int (0 : Int32)), (3, .long x3_1), (0, .ref (ad (xaS j))), (1, .int x1), (2, .int x2)]) hx hb dX4_isBehind_4 hl (by decide) rfl (fun ls hl => ?_)
  obtain ⟨n_9, h⟩ := h
  exact kX4_isBehind_6 l dC dI ad ci A hAD st v ln sv kv cu j hj  x2  post C0  n_9 x3_1 (0 : Int32) _ _ _ h hP hS (lv_sub hl [2, 4, 1, 0] rfl)
abbrev rmX4_tellDropped : Room := { frames := 2, cells := 0, slots := 0, locals := 63 }
theorem wX4_tellDropped_k45 : Cond.constantLong RX4 45 (-2000000005) ∈ wsX4_tellDropped := by decide +kernel
theorem wX4_tellDropped_m66 : Cond.methodLink RX4 66 Lib.MathLoose.max_long.x ∈ wsX4_tellDropped := by decide +kernel
theorem wX4_tellDropped_m66a : Cond.static Lib.MathLoose.max_long.x ∈ wsX4_tellDropped := by decide +kernel
theorem wX4_tellDropped_mth : Cond.initialized "java/lang/Math" ∈ wsX4_tellDropped := by decide +kernel
theorem wX4_tellDropped_m66b : Cond.code Lib.MathLoose.max_long.x Lib.MathLoose.max_long.code 4 (some .long) ∈ wsX4_tellDropped := by decide +kernel
theorem wX4_tellDropped_c4 : ∀ w ∈ u_ws RX4 TX4 8, w ∈ wsX4_tellDropped := by decide +kernel
theorem wX4_tellDropped_f19 : Cond.fieldLink RX4 19 "DueWheels$State" "time" "J" ∈ wsX4_tellDropped := by decide +kernel
theorem wX4_tellDropped_f11 : Cond.fieldLink RX4 11 "DueWheels$State" "dues" "[[J" ∈ wsX4_tellDropped := by decide +kernel
theorem wX4_tellDropped_f32 : Cond.fieldLink RX4 32 "DueWheels$State" "end" "I" ∈ wsX4_tellDropped := by decide +kernel
def LX4_tellDropped_2   (x1 : Int32)  (post : StV → Prop) : Nat → Int32 → StV → Prop
  | 0, _, _ => False
  | n + 1, x2, v => (((s_en v) ≤ x2 → post v) ∧ (¬ (s_en v) ≤ x2 → (vp_in x2 200 ∧ (((s_du v 6 (x2.toNatClampNeg)) = (x1.toInt64) → (vp_in x2 200 ∧ (∀ v_6 : StV, v_6 = s_wdu v 6 (x2.toNatClampNeg) (-2000000005 : Int64) → (vp_in x2 200 ∧ (PX4_setTick v_6 x2 (if ((s_tm v_6) + (1 : Int64)) < (s_du v_6 10 (x2.toNatClampNeg)) then (s_du v_6 10 (x2.toNatClampNeg)) else ((s_tm v_6) + (1 : Int64))) (fun (v_8 : StV) => ∀ x2_9 : Int32, x2_9 = x2 + 1 → LX4_tellDropped_2  x1 post n x2_9 v_8)))))) ∧ (¬ (s_du v 6 (x2.toNatClampNeg)) = (x1.toInt64) → ∀ x2_4 : Int32, x2_4 = x2 + 1 → LX4_tellDropped_2  x1 post n x2_4 v)))))
set_option maxHeartbeats 4000000 in
set_option maxRecDepth 100000 in
theorem kX4_tellDropped_2 {p : Program} {e : Env} {s : State} {m : MethodId} {args : Array Value} {below : List Frame} {meth : Method} {c : Code} (l : Launch) (dC : Nat → ClassId) (dI : Nat → Nat → Nat) (ad : Nat → Nat) (ci : Nat → ClassId) (A : Nat → Prop) (hAD : xw_D 141 ad A) (st : Nat → StV) (ln : Nat → LnV) (sv : SvV) (kv : KvV) (cu : Nat) (j : Nat) (hj : j < 7) (x1 : Int32)  (post : StV → Prop) (C0 : xC p s m args meth c cX4_tellDropped 3 none RX4 wsX4_tellDropped (dC, dI) (xT ci)) : ∀ (n : Nat) (x2 : Int32) (v : StV) (H : Heap) (locs : List Loc) (ls : Array Slot), LX4_tellDropped_2  x1 post n x2 v → va_P (dC, dI) vwCl (xw 141 ad (xc ad ci (va_up st j v) ln sv kv cu)) H → va_S A s.heap H locs → lv_has ls 3 [(0, .ref (ad (xaS j))), (1, .int x1), (2, .int x2)] → W p l e rmX4_tellDropped s m args below meth c H locs 0 0 (MQ below (va_Qv (fun u : StV => post u) (fun u t => va_P (dC, dI) vwCl (xw 141 ad (xc ad ci (va_up st j u) ln sv kv cu)) t.heap) A) args s 0 0 A) (F0 m 2 ls []) := by
  obtain ⟨hx, hb, -, hr, hlocks, hown, hts, hK⟩ := id C0
  intro n
  induction n with
  | zero =>
    intro x2 v H locs ls h
    exact False.elim h
  | succ n ih =>
    intro x2 v H locs ls h hP hS hl
    rw [LX4_tellDropped_2] at h
    refine lv_iload_n hx hb dX4_tellDropped_2 rfl (lv_at hl 2 rfl) ?_
    refine lv_aload_n hx hb dX4_tellDropped_3 rfl (lv_at hl 0 rfl) ?_
    refine xr_get (D := (dC, dI)) (C := RX4) (T := TX4) (N := 8) (v := .int (s_en v)) hx hb hts wX4_tellDropped_c4 hown hK hP (xaS j) (xq_S hj) (xe_S (va_up_self _ _ _)) rfl 4 (by decide) wX4_tellDropped_f32 rfl rfl dX4_tellDropped_4 ?_
    refine lv_icmp_ge (tgt := 66) hx hb dX4_tellDropped_7 (by decide) (fun c_1 => ?_) (fun c_1 => ?_)
    · have h := h.1 c_1
      exact W.vret hx hb hr (fun t ht hW => ⟨⟨v, rfl, h, x_ht ht hP⟩, hS.F ht⟩) hS.2.2 dX4_tellDropped_66
    · have h := h.2 c_1
      refine lv_aload_n hx hb dX4_tellDropped_10 rfl (lv_at hl 0 rfl) ?_
      refine xr_get (D := (dC, dI)) (C := RX4) (T := TX4) (N := 8) (v := .ref (ad (xaD0 j))) hx hb hts wX4_tellDropped_c4 hown hK hP (xaS j) (xq_S hj) (xe_S (va_up_self _ _ _)) rfl 6 (by decide) wX4_tellDropped_f11 rfl rfl dX4_tellDropped_11 ?_
      refine lv_bipush (v := (6 : Int32)) hx hb dX4_tellDropped_14 (by decide) ?_
      refine xr_aald (k := 6) (b := ad (xaD j 6)) hx hb hK hP (xaD0 j) 4 (xq_D0 hj) xe_D0 rfl rfl rfl (x_in _ _ (by decide)) rfl dX4_tellDropped_16 ?_
      refine lv_iload_n hx hb dX4_tellDropped_17 rfl (lv_at hl 2 rfl) ?_
      obtain ⟨g_2, h⟩ := h
      refine xr_lald (k := x2.toNatClampNeg) hx hb hK hP (xaD j 6) 1 (xq_D hj (by decide)) (xe_D (by decide) (va_up_self _ _ _)) rfl rfl g_2 dX4_tellDropped_18 ?_
      refine lv_iload_n hx hb dX4_tellDropped_19 rfl (lv_at hl 1 rfl) ?_
      refine lv_i2l hx hb dX4_tellDropped_20 rfl ?_
      refine xr_if_lcmp_ne (tgt := 60) hx hb dX4_tellDropped_21 dX4_tellDropped_22 (by decide) (fun c_3 => ?_) (fun c_3 => ?_)
      · have h := h.2 c_3
        obtain ⟨x2_4, ex2_4⟩ : ∃ z : Int32, z = x2 + 1 := ⟨_, rfl⟩
        have h := h x2_4 ex2_4
        refine lv_iinc (v := x2_4) (lv' := [(2, .int x2_4), (0, .ref (ad (xaS j))), (1, .int x1)]) hx hb dX4_tellDropped_60 hl (k := 2) rfl (by rw [ex2_4]; rfl) (by decide) rfl (fun ls hl => ?_)
        refine lv_goto (tgt := 2) hx hb dX4_tellDropped_63 (by decide) ?_
        exact ih x2_4 v _ _ _ h hP hS (lv_sub hl [1, 2, 0] rfl)
      · have h := h.1 c_3
        refine lv_aload_n hx hb dX4_tellDropped_25 rfl (lv_at hl 0 rfl) ?_
        refine xr_get (D := (dC, dI)) (C := RX4) (T := TX4) (N := 8) (v := .ref (ad (xaD0 j))) hx hb hts wX4_tellDropped_c4 hown hK hP (xaS j) (xq_S hj) (xe_S (va_up_self _ _ _)) rfl 6 (by decide) wX4_tellDropped_f11 rfl rfl dX4_tellDropped_26 ?_
        refine lv_bipush (v := (6 : Int32)) hx hb dX4_tellDropped_29 (by decide) ?_
        refine xr_aald (k := 6) (b := ad (xaD j 6)) hx hb hK hP (xaD0 j) 4 (xq_D0 hj) xe_D0 rfl rfl rfl (x_in _ _ (by decide)) rfl dX4_tellDropped_31 ?_
        refine lv_iload_n hx hb dX4_tellDropped_32 rfl (lv_at hl 2 rfl) ?_
        refine lv_ldc2 (v := (-2000000005 : Int64)) hx hb hown (hts _ wX4_tellDropped_k45) dX4_tellDropped_33 ?_
        obtain ⟨g_5, h⟩ := h
        obtain ⟨v_6, ev_6⟩ : ∃ z : StV, z = s_wdu v 6 (x2.toNatClampNeg) (-2000000005 : Int64) := ⟨_, rfl⟩
        have h := h v_6 ev_6
        refine xr_last (k := x2.toNatClampNeg) (x := (-2000000005 : Int64)) (g := (xc ad ci (va_up st j v_6) ln sv kv cu)) hx hb hK hP hAD hS (xaD j 6) 1 (xq_D hj (by decide)) (xe_D (by decide) (va_up_self _ _ _)) rfl rfl g_5 dX4_tellDropped_36 (xg_du (by decide) (va_up_self _ _ _) (by rw [ev_6]; exact bx_uu _ _ _ _)) (fun H locs hP hS => ?_)
        refine lv_aload_n hx hb dX4_tellDropped_37 rfl (lv_at hl 0 rfl) ?_
        refine lv_iload_n hx hb dX4_tellDropped_38 rfl (lv_at hl 2 rfl) ?_
        refine lv_aload_n hx hb dX4_tellDropped_39 rfl (lv_at hl 0 rfl) ?_
        refine xr_get (D := (dC, dI)) (C := RX4) (T := TX4) (N := 8) (v := .ref (ad (xaD0 j))) hx hb hts wX4_tellDropped_c4 hown hK hP (xaS j) (xq_S hj) (xe_S (va_up_self _ _ _)) rfl 6 (by decide) wX4_tellDropped_f11 rfl rfl dX4_tellDropped_40 ?_
        refine lv_bipush (v := (10 : Int32)) hx hb dX4_tellDropped_43 (by decide) ?_
        refine xr_aald (k := 10) (b := ad (xaD j 10)) hx hb hK hP (xaD0 j) 4 (xq_D0 hj) xe_D0 rfl rfl rfl (x_in _ _ (by decide)) rfl dX4_tellDropped_45 ?_
        refine lv_iload_n hx hb dX4_tellDropped_46 rfl (lv_at hl 2 rfl) ?_
        obtain ⟨g_7, h⟩ := h
        refine xr_lald (k := x2.toNatClampNeg) hx hb hK hP (xaD j 10) 1 (xq_D hj (by decide)) (xe_D (by decide) (va_up_self _ _ _)) rfl rfl g_7 dX4_tellDropped_47 ?_
        refine lv_aload_n hx hb dX4_tellDropped_48 rfl (lv_at hl 0 rfl) ?_
        refine xr_get (D := (dC, dI)) (C := RX4) (T := TX4) (N := 8) (v := .long (s_tm v_6)) hx hb hts wX4_tellDropped_c4 hown hK hP (xaS j) (xq_S hj) (xe_S (va_up_self _ _ _)) rfl 0 (by decide) wX4_tellDropped_f19 rfl rfl dX4_tellDropped_49 ?_
        refine lv_lconst (v := (1 : Int64)) hx hb dX4_tellDropped_52 (by decide) ?_
        refine lv_ladd hx hb dX4_tellDropped_53 ?_
        refine va_mmax_long hx hb (by rw [C0.2.2.1]; exact hl.1.symm) hown (hts _ wX4_tellDropped_m66) (hts _ wX4_tellDropped_m66a) (hts _ wX4_tellDropped_mth) (hts _ wX4_tellDropped_m66b) (Nat.le_of_ble_eq_true rfl) (Nat.le_of_ble_eq_true rfl) (Nat.zero_le _) (Nat.zero_le _) dX4_tellDropped_54 ?_
        refine va_callv (va_runV (As := [.int x2, .long (if ((s_tm v_6) + (1 : Int64)) < (s_du v_6 10 (x2.toNatClampNeg)) then (s_du v_6 10 (x2.toNatClampNeg)) else ((s_tm v_6) + (1 : Int64)))]) (rest := []) ⟨hx, hb, C0.2.2.1, hown, hts⟩ (qX4_setTick l dC dI ad ci A hAD st v_6 ln sv kv cu j hj x2 (if ((s_tm v_6) + (1 : Int64)) < (s_du v_6 10 (x2.toNatClampNeg)) then (s_du v_6 10 (x2.toNatClampNeg)) else ((s_tm v_6) + (1 : Int64))) _ h) (cwV 2 hts gX4_tellDropped_X4_setTick rfl rfl rfl (by decide +kernel) ⟨Nat.le_of_ble_eq_true rfl, Nat.le_of_ble_eq_true rfl⟩) ⟨xr_blind, xr_recv (r := (RX4, TX4, 8)) hK hP (xaS j) (xq_S hj) (xe_S (va_up_self _ _ _)) rfl, xr_pre hP hK⟩ rfl rfl hl.1 rfl (lv_room (Nat.le_of_ble_eq_true rfl)) dX4_tellDropped_57 ⟨Nat.zero_le _, Nat.zero_le _⟩) hS (fun _ _ h => h) (fun _ h => h) (fun v_8 t9 H locs ht hvm h hB _ _ hS => ?_)
        refine W.cs (cells' := 0) (slots' := 0) rfl rfl ?_
        have hP := x_th ht hB
        have hP : va_P (dC, dI) vwCl (xw 141 ad (xc ad ci (va_up st j v_8) ln sv kv cu)) H := hP
        obtain ⟨x2_9, ex2_9⟩ : ∃ z : Int32, z = x2 + 1 := ⟨_, rfl⟩
        have h := h x2_9 ex2_9
        refine lv_iinc (v := x2_9) (lv' := [(2, .int x2_9), (0, .ref (ad (xaS j))), (1, .int x1)]) hx hb dX4_tellDropped_60 hl (k := 2) rfl (by rw [ex2_9]; rfl) (by decide) rfl (fun ls hl => ?_)
        refine lv_goto (tgt := 2) hx hb dX4_tellDropped_63 (by decide) ?_
        exact ih x2_9 v_8 _ _ _ h hP hS (lv_sub hl [1, 2, 0] rfl)
def PX4_tellDropped  (v : StV) (x1 : Int32) (post : StV → Prop) : Prop :=
  (∃ n_10 : Nat, LX4_tellDropped_2  x1  post n_10 (0 : Int32) v)
set_option maxHeartbeats 4000000 in
set_option maxRecDepth 100000 in
theorem qX4_tellDropped (l : Launch) (dC : Nat → ClassId) (dI : Nat → Nat → Nat) (ad : Nat → Nat) (ci : Nat → ClassId) (A : Nat → Prop) (hAD : xw_D 141 ad A) (st : Nat → StV) (v : StV) (ln : Nat → LnV) (sv : SvV) (kv : KvV) (cu : Nat) (j : Nat) (hj : j < 7) (x1 : Int32) (post : StV → Prop) (h : PX4_tellDropped v x1 post) : Met l yX4_tellDropped wsX4_tellDropped rmX4_tellDropped (va_Pc [.ref (ad (xaS j)), .int x1] (fun U => va_P (dC, dI) vwCl (xw 141 ad (xc ad ci (va_up st j v) ln sv kv cu)) U.heap ∧ va_K (dC, dI) vwCl (xT ci) U)) (va_Qv (fun u : StV => post u) (fun u t => va_P (dC, dI) vwCl (xw 141 ad (xc ad ci (va_up st j u) ln sv kv cu)) t.heap) A) 0 0 A := by
  refine Met.ofW (cc := cX4_tellDropped) (maxL := 3) (ret := none) (by decide) rfl ?_
  intro p e s m args below meth c s₁ B hml hv
  obtain ⟨eargs, hP, hK⟩ := hv
  have C0 : xC p s m args meth c cX4_tellDropped 3 none RX4 wsX4_tellDropped (dC, dI) (xT ci) := ⟨B.exec, B.bytes, hml, B.returns, B.notSynchronized, findClass_of_methodNamed B.named, atoms_spec (ws := wsX4_tellDropped) B.pre, hK⟩
  obtain ⟨hx, hb, -, hr, hlocks, hown, hts, -⟩ := id C0
  have hS : va_S A s.heap s.heap [] := va_S.rf
  have hl := lv_entry ([.ref (ad (xaS j)), .int x1]) (n := 3) (Nat.le_of_ble_eq_true rfl)
  have ef : entryFrame m args 3 = entryFrame m ([.ref (ad (xaS j)), .int x1] : List Value).toArray 3 := by rw [eargs]
  rw [ef, lg_entry_eq]
  generalize (lg_sl ([.ref (ad (xaS j)), .int x1]) ++ List.replicate (3 - (lg_sl ([.ref (ad (xaS j)), .int x1])).length) Slot.unset).toArray = ls at hl ⊢
  have hl : lv_has ls 3 [(0, .ref (ad (xaS j))), (1, .int x1)] := hl
  have hP : va_P (dC, dI) vwCl (xw 141 ad (xc ad ci (va_up st j v) ln sv kv cu)) s.heap := hP
  unfold PX4_tellDropped at h
  refine lv_iconst (v := (0 : Int32)) hx hb dX4_tellDropped_0 (by decide) ?_
  refine lv_istore_n (lv' := [(2, .int (0 : Int32)), (0, .ref (ad (xaS j))), (1, .int x1)]) hx hb dX4_tellDropped_1 rfl hl (by decide) rfl (fun ls hl => ?_)
  obtain ⟨n_10, h⟩ := h
  exact kX4_tellDropped_2 l dC dI ad ci A hAD st ln sv kv cu j hj  x1  post C0  n_10 (0 : Int32) v _ _ _ h hP hS (lv_sub hl [1, 2, 0] rfl)
abbrev rmX4_liesIn : Room := { frames := 1, cells := 0, slots := 0, locals := 25 }
theorem wX4_liesIn_k45 : Cond.constantLong RX4 45 (-2000000005) ∈ wsX4_liesIn := by decide +kernel
theorem wX4_liesIn_c4 : ∀ w ∈ u_ws RX4 TX4 8, w ∈ wsX4_liesIn := by decide +kernel
theorem wX4_liesIn_f19 : Cond.fieldLink RX4 19 "DueWheels$State" "time" "J" ∈ wsX4_liesIn := by decide +kernel
theorem wX4_liesIn_f11 : Cond.fieldLink RX4 11 "DueWheels$State" "dues" "[[J" ∈ wsX4_liesIn := by decide +kernel
def PX4_liesIn  (v : StV) (x1 : Int32) (x2 : Int32) (x3 : Int32) (post : Int32 → Prop) : Prop :=
  (vp_in x1 200 ∧ ∀ x4_2 : Int64, x4_2 = (s_du v 2 (x1.toNatClampNeg)) → ((x4_2 = (-2000000005 : Int64) → post (0 : Int32)) ∧ (¬ x4_2 = (-2000000005 : Int64) → (PX5_wheelOf (s_tm v) x4_2 (fun (r_4 : Int32) => ((r_4 = x2 → (PX5_slotOf x2 x4_2 (fun (r_6 : Int32) => ((r_6 = x3 → post (1 : Int32)) ∧ (¬ r_6 = x3 → post (0 : Int32)))))) ∧ (¬ r_4 = x2 → post (0 : Int32))))))))
set_option maxHeartbeats 4000000 in
set_option maxRecDepth 100000 in
theorem qX4_liesIn (l : Launch) (dC : Nat → ClassId) (dI : Nat → Nat → Nat) (ad : Nat → Nat) (ci : Nat → ClassId) (A : Nat → Prop) (hAD : xw_D 141 ad A) (st : Nat → StV) (v : StV) (ln : Nat → LnV) (sv : SvV) (kv : KvV) (cu : Nat) (j : Nat) (hj : j < 7) (x1 : Int32) (x2 : Int32) (x3 : Int32) (post : Int32 → Prop) (h : PX4_liesIn v x1 x2 x3 post) : Met l yX4_liesIn wsX4_liesIn rmX4_liesIn (va_Pc [.ref (ad (xaS j)), .int x1, .int x2, .int x3] (fun U => va_P (dC, dI) vwCl (xw 141 ad (xc ad ci (va_up st j v) ln sv kv cu)) U.heap ∧ va_K (dC, dI) vwCl (xT ci) U)) (va_Qi (fun r9 (u : Unit) => post r9 ) (fun u t => va_P (dC, dI) vwCl (xw 141 ad (xc ad ci (va_up st j v) ln sv kv cu)) t.heap) A) 0 0 A := by
  refine Met.ofW (cc := cX4_liesIn) (maxL := 6) (ret := (some .boolean)) (by decide) rfl ?_
  intro p e s m args below meth c s₁ B hml hv
  obtain ⟨eargs, hP, hK⟩ := hv
  have C0 : xC p s m args meth c cX4_liesIn 6 (some .boolean) RX4 wsX4_liesIn (dC, dI) (xT ci) := ⟨B.exec, B.bytes, hml, B.returns, B.notSynchronized, findClass_of_methodNamed B.named, atoms_spec (ws := wsX4_liesIn) B.pre, hK⟩
  obtain ⟨hx, hb, -, hr, hlocks, hown, hts, -⟩ := id C0
  have hS : va_S A s.heap s.heap [] := va_S.rf
  have hl := lv_entry ([.ref (ad (xaS j)), .int x1, .int x2, .int x3]) (n := 6) (Nat.le_of_ble_eq_true rfl)
  have ef : entryFrame m args 6 = entryFrame m ([.ref (ad (xaS j)), .int x1, .int x2, .int x3] : List Value).toArray 6 := by rw [eargs]
  rw [ef, lg_entry_eq]
  generalize (lg_sl ([.ref (ad (xaS j)), .int x1, .int x2, .int x3]) ++ List.replicate (6 - (lg_sl ([.ref (ad (xaS j)), .int x1, .int x2, .int x3])).length) Slot.unset).toArray = ls at hl ⊢
  have hl : lv_has ls 6 [(0, .ref (ad (xaS j))), (1, .int x1), (2, .int x2), (3, .int x3)] := hl
  have hP : va_P (dC, dI) vwCl (xw 141 ad (xc ad ci (va_up st j v) ln sv kv cu)) s.heap := hP
  unfold PX4_liesIn at h
  refine lv_aload_n hx hb dX4_liesIn_0 rfl (lv_at hl 0 rfl) ?_
  refine xr_get (D := (dC, dI)) (C := RX4) (T := TX4) (N := 8) (v := .ref (ad (xaD0 j))) hx hb hts wX4_liesIn_c4 hown hK hP (xaS j) (xq_S hj) (xe_S (va_up_self _ _ _)) rfl 6 (by decide) wX4_liesIn_f11 rfl rfl dX4_liesIn_1 ?_
  refine lv_iconst (v := (2 : Int32)) hx hb dX4_liesIn_4 (by decide) ?_
  refine xr_aald (k := 2) (b := ad (xaD j 2)) hx hb hK hP (xaD0 j) 4 (xq_D0 hj) xe_D0 rfl rfl rfl (x_in _ _ (by decide)) rfl dX4_liesIn_5 ?_
  refine lv_iload_n hx hb dX4_liesIn_6 rfl (lv_at hl 1 rfl) ?_
  obtain ⟨g_1, h⟩ := h
  refine xr_lald (k := x1.toNatClampNeg) hx hb hK hP (xaD j 2) 1 (xq_D hj (by decide)) (xe_D (by decide) (va_up_self _ _ _)) rfl rfl g_1 dX4_liesIn_7 ?_
  refine lv_topl (fun x4_2 ex4_2 => ?_)
  have h := h x4_2 ex4_2
  refine lv_lstore (lv' := [(4, .long x4_2), (0, .ref (ad (xaS j))), (1, .int x1), (2, .int x2), (3, .int x3)]) hx hb dX4_liesIn_8 hl (by decide) rfl (fun ls hl => ?_)
  refine lv_lload hx hb dX4_liesIn_10 (lv_at hl 0 rfl) ?_
  refine lv_ldc2 (v := (-2000000005 : Int64)) hx hb hown (hts _ wX4_liesIn_k45) dX4_liesIn_12 ?_
  refine xr_if_lcmp_eq (tgt := 46) hx hb dX4_liesIn_15 dX4_liesIn_16 (by decide) (fun c_3 => ?_) (fun c_3 => ?_)
  · have h := h.1 c_3
    refine lv_iconst (v := (0 : Int32)) hx hb dX4_liesIn_46 (by decide) ?_
    exact W.zret (v := (0 : Int32)) (ty := .boolean) hx hb hr (by decide) (fun t ht hW => ⟨⟨(0 : Int32), (), rfl, h, x_ht ht hP⟩, hS.F ht⟩) hS.2.2 dX4_liesIn_47
  · have h := h.2 c_3
    refine lv_aload_n hx hb dX4_liesIn_19 rfl (lv_at hl 1 rfl) ?_
    refine xr_get (D := (dC, dI)) (C := RX4) (T := TX4) (N := 8) (v := .long (s_tm v)) hx hb hts wX4_liesIn_c4 hown hK hP (xaS j) (xq_S hj) (xe_S (va_up_self _ _ _)) rfl 0 (by decide) wX4_liesIn_f19 rfl rfl dX4_liesIn_20 ?_
    refine lv_lload hx hb dX4_liesIn_23 (lv_at hl 0 rfl) ?_
    refine va_calli (va_runS (As := [.long (s_tm v), .long x4_2]) (rest := []) ⟨hx, hb, C0.2.2.1, hown, hts⟩ (qX5_wheelOf l dC dI 141 ad (xc ad ci (va_up st j v) ln sv kv cu) (xT ci) A (s_tm v) x4_2 _ h) (va_cwS 2 hts gX4_liesIn_X5_wheelOf rfl rfl rfl (by decide +kernel) ⟨Nat.le_of_ble_eq_true rfl, Nat.le_of_ble_eq_true rfl⟩) ⟨xr_blind, xr_pre hP hK⟩ rfl rfl hl.1 rfl (lv_room (Nat.le_of_ble_eq_true rfl)) dX4_liesIn_25 ⟨Nat.zero_le _, Nat.zero_le _⟩) hS (fun _ _ h => h) (fun _ h => h) (fun r_4 _ t9 H locs ht hvm h hB _ _ hS => ?_)
    refine W.cs (cells' := 0) (slots' := 0) rfl rfl ?_
    have hP := x_th ht hB
    have hP : va_P (dC, dI) vwCl (xw 141 ad (xc ad ci (va_up st j v) ln sv kv cu)) H := hP
    refine lv_iload_n hx hb dX4_liesIn_28 rfl (lv_at hl 3 rfl) ?_
    refine lv_icmp_ne (tgt := 46) hx hb dX4_liesIn_29 (by decide) (fun c_5 => ?_) (fun c_5 => ?_)
    · have h := h.2 c_5
      refine lv_iconst (v := (0 : Int32)) hx hb dX4_liesIn_46 (by decide) ?_
      exact W.zret (v := (0 : Int32)) (ty := .boolean) hx hb hr (by decide) (fun t ht hW => ⟨⟨(0 : Int32), (), rfl, h, x_ht ht hP⟩, hS.F ht⟩) hS.2.2 dX4_liesIn_47
    · have h := h.1 c_5
      refine lv_iload_n hx hb dX4_liesIn_32 rfl (lv_at hl 3 rfl) ?_
      refine lv_lload hx hb dX4_liesIn_33 (lv_at hl 0 rfl) ?_
      refine va_calli (va_runS (As := [.int x2, .long x4_2]) (rest := []) ⟨hx, hb, C0.2.2.1, hown, hts⟩ (qX5_slotOf l dC dI 141 ad (xc ad ci (va_up st j v) ln sv kv cu) (xT ci) A x2 x4_2 _ h) (va_cwS 2 hts gX4_liesIn_X5_slotOf rfl rfl rfl (by decide +kernel) ⟨Nat.le_of_ble_eq_true rfl, Nat.le_of_ble_eq_true rfl⟩) ⟨xr_blind, xr_pre hP hK⟩ rfl rfl hl.1 rfl (lv_room (Nat.le_of_ble_eq_true rfl)) dX4_liesIn_35 ⟨Nat.zero_le _, Nat.zero_le _⟩) hS (fun _ _ h => h) (fun _ h => h) (fun r_6 _ t9 H locs ht hvm h hB _ _ hS => ?_)
      refine W.cs (cells' := 0) (slots' := 0) rfl rfl ?_
      have hP := x_th ht hB
      have hP : va_P (dC, dI) vwCl (xw 141 ad (xc ad ci (va_up st j v) ln sv kv cu)) H := hP
      refine lv_iload_n hx hb dX4_liesIn_38 rfl (lv_at hl 4 rfl) ?_
      refine lv_icmp_ne (tgt := 46) hx hb dX4_liesIn_39 (by decide) (fun c_7 => ?_) (fun c_7 => ?_)
      · have h := h.2 c_7
        refine lv_iconst (v := (0 : Int32)) hx hb dX4_liesIn_46 (by decide) ?_
        exact W.zret (v := (0 : Int32)) (ty := .boolean) hx hb hr (by decide) (fun t ht hW => ⟨⟨(0 : Int32), (), rfl, h, x_ht ht hP⟩, hS.F ht⟩) hS.2.2 dX4_liesIn_47
      · have h := h.1 c_7
        refine lv_iconst (v := (1 : Int32)) hx hb dX4_liesIn_42 (by decide) ?_
        refine lv_goto (tgt := 47) hx hb dX4_liesIn_43 (by decide) ?_
        exact W.zret (v := (1 : Int32)) (ty := .boolean) hx hb hr (by decide) (fun t ht hW => ⟨⟨(1 : Int32), (), rfl, h, x_ht ht hP⟩, hS.F ht⟩) hS.2.2 dX4_liesIn_47
abbrev rmX4_duesWith : Room := { frames := 0, cells := 0, slots := 0, locals := 0 }
theorem wX4_duesWith_k45 : Cond.constantLong RX4 45 (-2000000005) ∈ wsX4_duesWith := by decide +kernel
theorem wX4_duesWith_c4 : ∀ w ∈ u_ws RX4 TX4 8, w ∈ wsX4_duesWith := by decide +kernel
theorem wX4_duesWith_f11 : Cond.fieldLink RX4 11 "DueWheels$State" "dues" "[[J" ∈ wsX4_duesWith := by decide +kernel
theorem wX4_duesWith_f32 : Cond.fieldLink RX4 32 "DueWheels$State" "end" "I" ∈ wsX4_duesWith := by decide +kernel
def LX4_duesWith_5  (v : StV) (x1 : Int32)  (post : Int64 → Prop) : Nat → Int64 → Int32 → Prop
  | 0, _, _ => False
  | n + 1, x2, x4 => (((s_en v) ≤ x4 → post x2) ∧ (¬ (s_en v) ≤ x4 → (vp_in x1 12 ∧ (vp_in x4 200 ∧ (((s_du v x1.toNatClampNeg (x4.toNatClampNeg)) = (-2000000005 : Int64) → ∀ x4_5 : Int32, x4_5 = x4 + 1 → LX4_duesWith_5  v x1 post n x2 x4_5) ∧ (¬ (s_du v x1.toNatClampNeg (x4.toNatClampNeg)) = (-2000000005 : Int64) → ∀ x2_6 : Int64, x2_6 = (x2 + (1 : Int64)) → ∀ x4_7 : Int32, x4_7 = x4 + 1 → LX4_duesWith_5  v x1 post n x2_6 x4_7))))))
set_option maxHeartbeats 4000000 in
set_option maxRecDepth 100000 in
theorem kX4_duesWith_5 {p : Program} {e : Env} {s : State} {m : MethodId} {args : Array Value} {below : List Frame} {meth : Method} {c : Code} (l : Launch) (dC : Nat → ClassId) (dI : Nat → Nat → Nat) (ad : Nat → Nat) (ci : Nat → ClassId) (A : Nat → Prop) (hAD : xw_D 141 ad A) (st : Nat → StV) (v : StV) (ln : Nat → LnV) (sv : SvV) (kv : KvV) (cu : Nat) (j : Nat) (hj : j < 7) (x1 : Int32)  (post : Int64 → Prop) (C0 : xC p s m args meth c cX4_duesWith 5 (some .long) RX4 wsX4_duesWith (dC, dI) (xT ci)) : ∀ (n : Nat) (x2 : Int64) (x4 : Int32) (H : Heap) (locs : List Loc) (ls : Array Slot), LX4_duesWith_5  v x1 post n x2 x4 → va_P (dC, dI) vwCl (xw 141 ad (xc ad ci (va_up st j v) ln sv kv cu)) H → va_S A s.heap H locs → lv_has ls 5 [(0, .ref (ad (xaS j))), (1, .int x1), (2, .long x2), (4, .int x4)] → W p l e rmX4_duesWith s m args below meth c H locs 0 0 (MQ below (va_Ql (fun r9 (u : Unit) => post r9 ) (fun u t => va_P (dC, dI) vwCl (xw 141 ad (xc ad ci (va_up st j v) ln sv kv cu)) t.heap) A) args s 0 0 A) (F0 m 5 ls []) := by
  obtain ⟨hx, hb, -, hr, hlocks, hown, hts, hK⟩ := id C0
  intro n
  induction n with
  | zero =>
    intro x2 x4 H locs ls h
    exact False.elim h
  | succ n ih =>
    intro x2 x4 H locs ls h hP hS hl
    rw [LX4_duesWith_5] at h
    refine lv_iload hx hb dX4_duesWith_5 (lv_at hl 3 rfl) ?_
    refine lv_aload_n hx hb dX4_duesWith_7 rfl (lv_at hl 0 rfl) ?_
    refine xr_get (D := (dC, dI)) (C := RX4) (T := TX4) (N := 8) (v := .int (s_en v)) hx hb hts wX4_duesWith_c4 hown hK hP (xaS j) (xq_S hj) (xe_S (va_up_self _ _ _)) rfl 4 (by decide) wX4_duesWith_f32 rfl rfl dX4_duesWith_8 ?_
    refine lv_icmp_ge (tgt := 40) hx hb dX4_duesWith_11 (by decide) (fun c_1 => ?_) (fun c_1 => ?_)
    · have h := h.1 c_1
      refine lv_lload_n hx hb dX4_duesWith_40 rfl (lv_at hl 2 rfl) ?_
      exact W.lret (v := x2) hx hb hr (fun t ht hW => ⟨⟨x2, (), rfl, h, x_ht ht hP⟩, hS.F ht⟩) hS.2.2 dX4_duesWith_41
    · have h := h.2 c_1
      refine lv_aload_n hx hb dX4_duesWith_14 rfl (lv_at hl 0 rfl) ?_
      refine xr_get (D := (dC, dI)) (C := RX4) (T := TX4) (N := 8) (v := .ref (ad (xaD0 j))) hx hb hts wX4_duesWith_c4 hown hK hP (xaS j) (xq_S hj) (xe_S (va_up_self _ _ _)) rfl 6 (by decide) wX4_duesWith_f11 rfl rfl dX4_duesWith_15 ?_
      refine lv_iload_n hx hb dX4_duesWith_18 rfl (lv_at hl 1 rfl) ?_
      obtain ⟨g_2, h⟩ := h
      refine xr_aald (k := x1.toNatClampNeg) (b := ad (xaD j x1.toNatClampNeg)) hx hb hK hP (xaD0 j) 4 (xq_D0 hj) xe_D0 rfl rfl rfl g_2 rfl dX4_duesWith_19 ?_
      refine lv_iload hx hb dX4_duesWith_20 (lv_at hl 3 rfl) ?_
      obtain ⟨g_3, h⟩ := h
      refine xr_lald (k := x4.toNatClampNeg) hx hb hK hP (xaD j x1.toNatClampNeg) 1 (xq_D hj (x_lt g_2)) (xe_D (x_lt g_2) (va_up_self _ _ _)) rfl rfl g_3 dX4_duesWith_22 ?_
      refine lv_ldc2 (v := (-2000000005 : Int64)) hx hb hown (hts _ wX4_duesWith_k45) dX4_duesWith_23 ?_
      refine xr_if_lcmp_eq (tgt := 34) hx hb dX4_duesWith_26 dX4_duesWith_27 (by decide) (fun c_4 => ?_) (fun c_4 => ?_)
      · have h := h.1 c_4
        obtain ⟨x4_5, ex4_5⟩ : ∃ z : Int32, z = x4 + 1 := ⟨_, rfl⟩
        have h := h x4_5 ex4_5
        refine lv_iinc (v := x4_5) (lv' := [(4, .int x4_5), (0, .ref (ad (xaS j))), (1, .int x1), (2, .long x2)]) hx hb dX4_duesWith_34 hl (k := 3) rfl (by rw [ex4_5]; rfl) (by decide) rfl (fun ls hl => ?_)
        refine lv_goto (tgt := 5) hx hb dX4_duesWith_37 (by decide) ?_
        exact ih x2 x4_5 _ _ _ h hP hS (lv_sub hl [1, 2, 3, 0] rfl)
      · have h := h.2 c_4
        refine lv_lload_n hx hb dX4_duesWith_30 rfl (lv_at hl 2 rfl) ?_
        refine lv_lconst (v := (1 : Int64)) hx hb dX4_duesWith_31 (by decide) ?_
        refine lv_ladd hx hb dX4_duesWith_32 ?_
        refine lv_topl (fun x2_6 ex2_6 => ?_)
        have h := h x2_6 ex2_6
        refine lv_lstore_n (lv' := [(2, .long x2_6), (0, .ref (ad (xaS j))), (1, .int x1), (4, .int x4)]) hx hb dX4_duesWith_33 rfl hl (by decide) rfl (fun ls hl => ?_)
        obtain ⟨x4_7, ex4_7⟩ : ∃ z : Int32, z = x4 + 1 := ⟨_, rfl⟩
        have h := h x4_7 ex4_7
        refine lv_iinc (v := x4_7) (lv' := [(4, .int x4_7), (2, .long x2_6), (0, .ref (ad (xaS j))), (1, .int x1)]) hx hb dX4_duesWith_34 hl (k := 3) rfl (by rw [ex4_7]; rfl) (by decide) rfl (fun ls hl => ?_)
        refine lv_goto (tgt := 5) hx hb dX4_duesWith_37 (by decide) ?_
        exact ih x2_6 x4_7 _ _ _ h hP hS (lv_sub hl [2, 3, 1, 0] rfl)
def PX4_duesWith  (v : StV) (x1 : Int32) (post : Int64 → Prop) : Prop :=
  (∃ n_8 : Nat, LX4_duesWith_5  v x1  post n_8 (0 : Int64) (0 : Int32))
set_option maxHeartbeats 4000000 in
set_option maxRecDepth 100000 in
theorem qX4_duesWith (l : Launch) (dC : Nat → ClassId) (dI : Nat → Nat → Nat) (ad : Nat → Nat) (ci : Nat → ClassId) (A : Nat → Prop) (hAD : xw_D 141 ad A) (st : Nat → StV) (v : StV) (ln : Nat → LnV) (sv : SvV) (kv : KvV) (cu : Nat) (j : Nat) (hj : j < 7) (x1 : Int32) (post : Int64 → Prop) (h : PX4_duesWith v x1 post) : Met l yX4_duesWith wsX4_duesWith rmX4_duesWith (va_Pc [.ref (ad (xaS j)), .int x1] (fun U => va_P (dC, dI) vwCl (xw 141 ad (xc ad ci (va_up st j v) ln sv kv cu)) U.heap ∧ va_K (dC, dI) vwCl (xT ci) U)) (va_Ql (fun r9 (u : Unit) => post r9 ) (fun u t => va_P (dC, dI) vwCl (xw 141 ad (xc ad ci (va_up st j v) ln sv kv cu)) t.heap) A) 0 0 A := by
  refine Met.ofW (cc := cX4_duesWith) (maxL := 5) (ret := (some .long)) (by decide) rfl ?_
  intro p e s m args below meth c s₁ B hml hv
  obtain ⟨eargs, hP, hK⟩ := hv
  have C0 : xC p s m args meth c cX4_duesWith 5 (some .long) RX4 wsX4_duesWith (dC, dI) (xT ci) := ⟨B.exec, B.bytes, hml, B.returns, B.notSynchronized, findClass_of_methodNamed B.named, atoms_spec (ws := wsX4_duesWith) B.pre, hK⟩
  obtain ⟨hx, hb, -, hr, hlocks, hown, hts, -⟩ := id C0
  have hS : va_S A s.heap s.heap [] := va_S.rf
  have hl := lv_entry ([.ref (ad (xaS j)), .int x1]) (n := 5) (Nat.le_of_ble_eq_true rfl)
  have ef : entryFrame m args 5 = entryFrame m ([.ref (ad (xaS j)), .int x1] : List Value).toArray 5 := by rw [eargs]
  rw [ef, lg_entry_eq]
  generalize (lg_sl ([.ref (ad (xaS j)), .int x1]) ++ List.replicate (5 - (lg_sl ([.ref (ad (xaS j)), .int x1])).length) Slot.unset).toArray = ls at hl ⊢
  have hl : lv_has ls 5 [(0, .ref (ad (xaS j))), (1, .int x1)] := hl
  have hP : va_P (dC, dI) vwCl (xw 141 ad (xc ad ci (va_up st j v) ln sv kv cu)) s.heap := hP
  unfold PX4_duesWith at h
  refine lv_lconst (v := (0 : Int64)) hx hb dX4_duesWith_0 (by decide) ?_
  refine lv_lstore_n (lv' := [(2, .long (0 : Int64)), (0, .ref (ad (xaS j))), (1, .int x1)]) hx hb dX4_duesWith_1 rfl hl (by decide) rfl (fun ls hl => ?_)
  refine lv_iconst (v := (0 : Int32)) hx hb dX4_duesWith_2 (by decide) ?_
  refine lv_istore (lv' := [(4, .int (0 : Int32)), (2, .long (0 : Int64)), (0, .ref (ad (xaS j))), (1, .int x1)]) hx hb dX4_duesWith_3 hl (by decide) rfl (fun ls hl => ?_)
  obtain ⟨n_8, h⟩ := h
  exact kX4_duesWith_5 l dC dI ad ci A hAD st v ln sv kv cu j hj  x1  post C0  n_8 (0 : Int64) (0 : Int32) _ _ _ h hP hS (lv_sub hl [2, 3, 1, 0] rfl)
end
