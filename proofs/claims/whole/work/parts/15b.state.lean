/-! the constructor of State -/
def sB (b : Nat → Nat) (ci : Nat → ClassId) (p o : Nat) : va_E :=
  if o = 0 then .inr (4, [.long 0, .long 0, .long 0, .long 0, .int 0, .int 0, .ref (b (p + 1)), .ref (b (p + 14))])
  else if o = 1 then .inl (ci 4, 12, x_q (fun i => if i < 12 then some (b (p + 2 + i)) else none))
  else if o = 14 then .inl (ci 4, 3, x_q (fun i => if i < 3 then some (b (p + 15 + i)) else none))
  else if o < 14 then .inl (ci 1, 200, .inr (.inl (fun _ => 0)))
  else .inl (ci 1, 300, .inr (.inl (fun _ => 0)))
theorem sB_congr {b b' : Nat → Nat} {ci : Nat → ClassId} {p p' : Nat} (h : ∀ o, o < 18 → b (p + o) = b' (p' + o)) (o : Nat) : sB b ci p o = sB b' ci p' o := by
  unfold sB
  have e1 : (fun i => if i < 12 then some (b (p + 2 + i)) else none) = (fun i => if i < 12 then some (b' (p' + 2 + i)) else none) := by
    funext i
    by_cases q : i < 12
    · rw [if_pos q, if_pos q, show p + 2 + i = p + (2 + i) by omega, show p' + 2 + i = p' + (2 + i) by omega, h _ (by omega)]
    · rw [if_neg q, if_neg q]
  have e2 : (fun i => if i < 3 then some (b (p + 15 + i)) else none) = (fun i => if i < 3 then some (b' (p' + 15 + i)) else none) := by
    funext i
    by_cases q : i < 3
    · rw [if_pos q, if_pos q, show p + 15 + i = p + (15 + i) by omega, show p' + 15 + i = p' + (15 + i) by omega, h _ (by omega)]
    · rw [if_neg q, if_neg q]
  rw [e1, e2, h 1 (by omega), h 14 (by omega)]
abbrev eS0 : va_E := .inr (4, [.long 0, .long 0, .long 0, .long 0, .int 0, .int 0, .null, .null])
def aS (h0 q : Nat) (r : Nat → Nat) (q2 : Nat) (r2 : Nat → Nat) (o : Nat) : Nat := if o = 0 then h0 else if o = 1 then q else if o = 14 then q2 else if o < 14 then r (o - 2) else r2 (o - 15)
theorem aS_D (h0 q : Nat) (r : Nat → Nat) (q2 : Nat) (r2 : Nat → Nat) {i : Nat} (h : i < 12) : aS h0 q r q2 r2 (0 + 2 + i) = r i := by
  unfold aS
  rw [if_neg (by omega), if_neg (by omega), if_neg (by omega), if_pos (by omega), show 0 + 2 + i - 2 = i by omega]
theorem aS_R (h0 q : Nat) (r : Nat → Nat) (q2 : Nat) (r2 : Nat → Nat) (i : Nat) : aS h0 q r q2 r2 (0 + 15 + i) = r2 i := by
  unfold aS
  rw [if_neg (by omega), if_neg (by omega), if_neg (by omega), if_neg (by omega), show 0 + 15 + i - 15 = i by omega]
theorem innerC_l (c : ClassId) (K : Nat) : Jvm.Free.Multi.innerC c K (defaultValue .long) = vp_cell c (K, .inr (.inl (fun _ => 0))) := arrV_new c K _
set_option maxHeartbeats 4000000 in
set_option maxRecDepth 100000 in
theorem nX4_init (l : Launch) (dC : Nat → ClassId) (dI : Nat → Nat → Nat) (ci : Nat → ClassId) (h0 sz : Nat) : Met l yX4_init wsX4_init ({ frames := 1, cells := 17, slots := 3315, locals := 12 }) (va_Pc [.ref h0] (cP (dC, dI) ci h0 eS0 sz)) (va_Qv (fun a : Nat → Nat => blkD 18 a h0 sz) (fun a t => va_P (dC, dI) vwCl (xw 18 a (sB a ci 0)) t.heap) (va_A [(h0, eS0)] sz)) 17 3315 (va_A [(h0, eS0)] sz) := by
  refine Met.ofW (cc := cX4_init) (maxL := 1) (ret := none) (by decide) rfl ?_
  intro p e s m args below meth c s₁ B hml hv
  obtain ⟨rfl, hsz, hP, hK, hN⟩ := hv
  have hx := B.exec
  have hb := B.bytes
  have hr := B.returns
  have hts := atoms_spec (ws := wsX4_init) B.pre
  have hown : s.vm.findClass RX4 = some m.cls := findClass_of_methodNamed B.named
  have hlocks := B.notSynchronized
  have hin : meth.name = "<init>" := (name_of_methodNamed B.named B.method).1
  subst hsz
  have hD : va_D (va_A [(h0, eS0)] s.heap.size) [(h0, eS0)] := one_D A_self
  have hA : ∀ q : Nat, s.heap.size ≤ q → va_A [(h0, eS0)] s.heap.size q := A_new
  have hA2 : ∀ q : Nat, va_A [(h0, eS0)] s.heap.size q → q = h0 ∨ s.heap.size ≤ q := fun q hq => A_of hq
  generalize hAe : va_A [(h0, eS0)] s.heap.size = A at hD hA hA2 ⊢
  have hS : va_S A s.heap s.heap [] := va_S.rf
  have hl := lv_entry ([.ref h0]) (n := 1) (Nat.le_of_ble_eq_true rfl)
  rw [lg_entry_eq]
  generalize (lg_sl ([.ref h0]) ++ List.replicate (1 - (lg_sl ([.ref h0])).length) Slot.unset).toArray = ls at hl ⊢
  have hl : lv_has ls 1 [(0, .ref h0)] := hl
  refine lv_aload_n hx hb dX4_init_0 rfl (lv_at hl 0 rfl) ?_
  refine W.objInit hx hb hown (hts (.methodLink RX4 3 objectInit) (by decide +kernel)) (hts (.instanceMethod objectInit) (by decide +kernel)) (hts _ (List.mem_cons_of_mem _ (List.mem_append_left _ (List.mem_of_getElem? (i := 2) rfl)))) rfl (by rw [hml]; exact hl.1) rfl dX4_init_1 (Nat.le_of_ble_eq_true rfl) (Nat.le_of_ble_eq_true rfl) ?_
  refine W.eq (g2 := F0 m 4 ls []) rfl ?_
  refine lv_aload_n hx hb dX4_init_4 rfl (lv_at hl 0 rfl) ?_
  refine lv_bipush (v := (12 : Int32)) hx hb dX4_init_5 (by decide) ?_
  refine lv_sipush (v := (200 : Int32)) hx hb dX4_init_7 (by decide) ?_
  have hcy : s.vm.findClass (FieldType.array .long).toString = some (ci 1) := (hK.2 1 _ rfl).2
  have hP : va_P (dC, dI) vwCl ([(h0, eS0)] ++ va_pl [] (fun _ => eS0)) s.heap := hP
  have hD : va_D A ([(h0, eS0)] ++ va_pl [] (fun _ => eS0)) := hD
  refine va_mna (ty := .long) (cy := ci 1) (N' := 12) (K' := 200) (z := (200, .inr (.inl (fun _ => 0)))) hx hb hown (hts (.classLink RX4 9 "[[J") (by decide +kernel)) hN.2.1 (hts (.arrayClass .long) (by decide +kernel)) hcy hK hP hD hS hA (by decide) (by decide) (by decide) (by decide) (by decide +kernel) (by decide +kernel) (by decide +kernel) rfl rfl (show 0 + (1 + 12) ≤ 17 by omega) (show 0 + (12 + 12 * 200) ≤ 3315 by omega) (fun c => innerC_l c 200) dX4_init_10 (fun q r cA H hinj hnl hK1 hP hD hS => ?_)
  obtain rfl : cA = ci 4 := ci_eq hK1 5 4 rfl rfl
  refine va_putF (D := (dC, dI)) (ci := 4) (v := .ref q) (ty := .array (.array .long)) (C := RX4) (T := TX4) (N := 8) hx hb hts (by decide +kernel) tyX4 tyX4_ok nmX4 hown hK hP hD hS 0 rfl rfl 6 (by decide) (hts (.fieldLink RX4 11 "DueWheels$State" "dues" "[[J") (by decide +kernel)) (fun _ h9 => h9) rfl hin rfl (by decide +kernel) rfl rfl (Nat.le_of_ble_eq_true rfl) dX4_init_14 (fun H locs hP hD hS => ?_)
  refine lv_aload_n hx hb dX4_init_17 rfl (lv_at hl 0 rfl) ?_
  refine lv_iconst (v := (3 : Int32)) hx hb dX4_init_18 (by decide) ?_
  refine lv_sipush (v := (300 : Int32)) hx hb dX4_init_19 (by decide) ?_
  obtain ⟨L1, eL1⟩ : ∃ z : List Nat, z = (List.range 12).map r := ⟨_, rfl⟩
  obtain ⟨f1, ef1⟩ : ∃ z : Nat → va_E, z = vr_up (fun _ => eS0) L1 (.inl (ci 1, (200, .inr (.inl (fun _ => 0))))) := ⟨_, rfl⟩
  have hP : va_P (dC, dI) vwCl ([(h0, .inr (4, [.long 0, .long 0, .long 0, .long 0, .int 0, .int 0, .ref q, .null])), (q, .inl (ci 4, 12, x_q (fun i => if i < 12 then some (r i) else none)))] ++ va_pl L1 f1) H := by rw [ef1, eL1]; exact hP
  have hD : va_D A ([(h0, .inr (4, [.long 0, .long 0, .long 0, .long 0, .int 0, .int 0, .ref q, .null])), (q, .inl (ci 4, 12, x_q (fun i => if i < 12 then some (r i) else none)))] ++ va_pl L1 f1) := by rw [ef1, eL1]; exact hD
  refine va_mna (ty := .long) (cy := ci 1) (N' := 3) (K' := 300) (z := (300, .inr (.inl (fun _ => 0)))) hx hb hown (hts (.classLink RX4 9 "[[J") (by decide +kernel)) hN.2.1 (hts (.arrayClass .long) (by decide +kernel)) hcy hK hP hD hS hA (by decide) (by decide) (by decide) (by decide) (by decide +kernel) (by decide +kernel) (by decide +kernel) rfl rfl (show 0 + 1 + 12 + (1 + 3) ≤ 17 by omega) (show 0 + 12 + 12 * 200 + (3 + 3 * 300) ≤ 3315 by omega) (fun c => innerC_l c 300) dX4_init_22 (fun q2 r2 cA H hinj2 hnl2 hK1 hP hD hS => ?_)
  obtain rfl : cA = ci 4 := ci_eq hK1 5 4 rfl rfl
  refine va_putF (D := (dC, dI)) (ci := 4) (v := .ref q2) (ty := .array (.array .long)) (C := RX4) (T := TX4) (N := 8) hx hb hts (by decide +kernel) tyX4 tyX4_ok nmX4 hown hK hP hD hS 0 rfl rfl 7 (by decide) (hts (.fieldLink RX4 16 "DueWheels$State" "row" "[[J") (by decide +kernel)) (fun _ h9 => h9) rfl hin rfl (by decide +kernel) rfl rfl (Nat.le_of_ble_eq_true rfl) dX4_init_26 (fun H locs hP hD hS => ?_)
  obtain ⟨L2, eL2⟩ : ∃ z : List Nat, z = (List.range 3).map r2 := ⟨_, rfl⟩
  obtain ⟨f2, ef2⟩ : ∃ z : Nat → va_E, z = vr_up f1 L2 (.inl (ci 1, (300, .inr (.inl (fun _ => 0))))) := ⟨_, rfl⟩
  obtain ⟨ws, ews⟩ : ∃ z : va_W, z = [(h0, .inr (4, [.long 0, .long 0, .long 0, .long 0, .int 0, .int 0, .ref q, .ref q2])), (q, .inl (ci 4, 12, x_q (fun i => if i < 12 then some (r i) else none))), (q2, .inl (ci 4, 3, x_q (fun i => if i < 3 then some (r2 i) else none)))] ++ ((List.range 12).map (fun i => (r i, f2 (r i))) ++ (List.range 3).map (fun i => (r2 i, f2 (r2 i)))) := ⟨_, rfl⟩
  have epl : va_pl (L1 ++ L2) f2 = (List.range 12).map (fun i => (r i, f2 (r i))) ++ (List.range 3).map (fun i => (r2 i, f2 (r2 i))) := by
    unfold va_pl
    rw [List.map_append, eL1, eL2, List.map_map, List.map_map]
    rfl
  have hP : va_P (dC, dI) vwCl ws H := by rw [ews, ← epl, ef2, eL2]; exact hP
  have hD : va_D A ws := by rw [ews, ← epl, ef2, eL2]; exact hD
  have row1 : ∀ i, i < 12 → f2 (r i) = .inl (ci 1, 200, .inr (.inl (fun _ => 0))) := fun i hi => by
    have m1 : r i ∈ L1 := by rw [eL1]; exact List.mem_map.mpr ⟨i, List.mem_range.mpr hi, rfl⟩
    have m2 : r i ∉ L2 := fun z => by
      rw [eL2] at z
      obtain ⟨j, j1, j2⟩ := List.mem_map.mp z
      exact hnl2 j (List.mem_range.mp j1) (by rw [j2]; exact m1)
    rw [ef2, vr_up_ne m2, ef1, vr_up_in m1]
  have row2 : ∀ i, i < 3 → f2 (r2 i) = .inl (ci 1, 300, .inr (.inl (fun _ => 0))) := fun i hi => by
    have m2 : r2 i ∈ L2 := by rw [eL2]; exact List.mem_map.mpr ⟨i, List.mem_range.mpr hi, rfl⟩
    rw [ef2, vr_up_in m2]
  have c1 : sB (aS h0 q r q2 r2) ci 0 1 = .inl (ci 4, 12, x_q (fun i => if i < 12 then some (r i) else none)) := by
    show (Sum.inl (ci 4, 12, x_q (fun i => if i < 12 then some (aS h0 q r q2 r2 (0 + 2 + i)) else none)) : va_E) = _
    congr 4
    funext i
    by_cases z : i < 12
    · rw [if_pos z, if_pos z, aS_D h0 q r q2 r2 z]
    · rw [if_neg z, if_neg z]
  have c14 : sB (aS h0 q r q2 r2) ci 0 14 = .inl (ci 4, 3, x_q (fun i => if i < 3 then some (r2 i) else none)) := by
    show (Sum.inl (ci 4, 3, x_q (fun i => if i < 3 then some (aS h0 q r q2 r2 (0 + 15 + i)) else none)) : va_E) = _
    congr 4
    funext i
    by_cases z : i < 3
    · rw [if_pos z, if_pos z, aS_R h0 q r q2 r2 i]
    · rw [if_neg z, if_neg z]
  have key : ∀ o, o < 18 → ws[if o = 14 then 2 else if o < 2 then o else if o < 14 then o + 1 else o]? = some (aS h0 q r q2 r2 o, sB (aS h0 q r q2 r2) ci 0 o) := fun o ho => by
    rw [ews]
    rcases (show o = 0 ∨ o = 1 ∨ o = 2 ∨ o = 3 ∨ o = 4 ∨ o = 5 ∨ o = 6 ∨ o = 7 ∨ o = 8 ∨ o = 9 ∨ o = 10 ∨ o = 11 ∨ o = 12 ∨ o = 13 ∨ o = 14 ∨ o = 15 ∨ o = 16 ∨ o = 17 by omega) with rfl | rfl | rfl | rfl | rfl | rfl | rfl | rfl | rfl | rfl | rfl | rfl | rfl | rfl | rfl | rfl | rfl | rfl
    · rfl
    · rw [c1]; rfl
    · exact congrArg (fun z => some (r 0, z)) (row1 0 (by omega))
    · exact congrArg (fun z => some (r 1, z)) (row1 1 (by omega))
    · exact congrArg (fun z => some (r 2, z)) (row1 2 (by omega))
    · exact congrArg (fun z => some (r 3, z)) (row1 3 (by omega))
    · exact congrArg (fun z => some (r 4, z)) (row1 4 (by omega))
    · exact congrArg (fun z => some (r 5, z)) (row1 5 (by omega))
    · exact congrArg (fun z => some (r 6, z)) (row1 6 (by omega))
    · exact congrArg (fun z => some (r 7, z)) (row1 7 (by omega))
    · exact congrArg (fun z => some (r 8, z)) (row1 8 (by omega))
    · exact congrArg (fun z => some (r 9, z)) (row1 9 (by omega))
    · exact congrArg (fun z => some (r 10, z)) (row1 10 (by omega))
    · exact congrArg (fun z => some (r 11, z)) (row1 11 (by omega))
    · rw [c14]; rfl
    · exact congrArg (fun z => some (r2 0, z)) (row2 0 (by omega))
    · exact congrArg (fun z => some (r2 1, z)) (row2 1 (by omega))
    · exact congrArg (fun z => some (r2 2, z)) (row2 2 (by omega))
  have a0 : aS h0 q r q2 r2 0 = h0 := rfl
  generalize aS h0 q r q2 r2 = a at key a0
  have hP9 : va_P (dC, dI) vwCl (xw 18 a (sB a ci 0)) H := fun k x hk => by
    obtain ⟨h1, rfl⟩ := xw_of hk
    exact hP _ _ (key k h1)
  have hbk : blkD 18 a h0 s.heap.size := by
    have inj : ∀ i j, i < 18 → j < 18 → a i = a j → i = j := fun i j hi hj e => by
      have := hD.1 _ _ _ _ (key i hi) (key j hj) e
      repeat' split at this
      all_goals omega
    refine ⟨a0, inj, fun i h1 h2 => ?_⟩
    rcases hA2 _ (hD.2 _ _ (key i h2)) with z | z
    · have := inj i 0 h2 (by omega) (z.trans a0.symm)
      omega
    · exact z
  refine W.cs (cells' := 17) (slots' := 3315) rfl rfl ?_
  exact W.vret hx hb hr (fun t ht hW => ⟨⟨a, rfl, hbk, x_ht ht hP9⟩, hS.F ht⟩) hS.2.2 dX4_init_29
