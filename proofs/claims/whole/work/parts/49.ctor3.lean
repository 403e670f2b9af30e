/-! the constructors of Going, Settling, Kept -/
theorem xw_one (h : Nat) (e : va_E) : [(h, e)] = xw 1 (fun _ => h) (fun _ => e) := rfl
theorem blk_of_D {A : Nat → Prop} {n : Nat} {a : Nat → Nat} {f : Nat → va_E} {h0 sz : Nat} (hD : va_D A (xw n a f)) (hA2 : ∀ q : Nat, A q → q = h0 ∨ sz ≤ q) (a0 : a 0 = h0) : blkD n a h0 sz := by
  have inj : ∀ i j, i < n → j < n → a i = a j → i = j := fun i j hi hj e => hD.1 i j _ _ (xw_at hi) (xw_at hj) e
  refine ⟨a0, inj, fun i h1 h2 => ?_⟩
  rcases hA2 _ (hD.2 i _ (xw_at h2)) with z | z
  · have := inj i 0 h2 (by omega) (z.trans a0.symm)
    omega
  · exact z
theorem lB_congr {b b' : Nat → Nat} {ci : Nat → ClassId} {p p' : Nat} (h : ∀ o, o < 4 → b (p + o) = b' (p' + o)) (o : Nat) : lB b ci p o = lB b' ci p' o := by
  unfold lB
  rw [h 1 (by omega), h 2 (by omega), h 3 (by omega)]
def gB (a : Nat → Nat) (ci : Nat → ClassId) (o : Nat) : va_E := if o = 0 then .inr (0, [.ref (a 1)]) else lB a ci 1 (o - 1)
abbrev eG0 : va_E := .inr (0, [.null])
set_option maxHeartbeats 4000000 in
set_option maxRecDepth 100000 in
theorem nX0_init (l : Launch) (dC : Nat → ClassId) (dI : Nat → Nat → Nat) (ci : Nat → ClassId) (h0 sz : Nat) : Met l yX0_init wsX0_init ({ frames := 2, cells := 4, slots := 604, locals := 32 }) (va_Pc [.ref h0] (cP (dC, dI) ci h0 eG0 sz)) (va_Qv (fun a : Nat → Nat => blkD 5 a h0 sz) (fun a t => va_P (dC, dI) vwCl (xw 5 a (gB a ci)) t.heap) (va_A [(h0, eG0)] sz)) 4 604 (va_A [(h0, eG0)] sz) := by
  refine Met.ofW (cc := cX0_init) (maxL := 1) (ret := none) (by decide) rfl ?_
  intro p e s m args below meth c s₁ B hml hv
  obtain ⟨rfl, hsz, hP, hK, hN⟩ := hv
  have hx := B.exec
  have hb := B.bytes
  have hr := B.returns
  have hts := atoms_spec (ws := wsX0_init) B.pre
  have hown : s.vm.findClass RX0 = some m.cls := findClass_of_methodNamed B.named
  have hlocks := B.notSynchronized
  have hin : meth.name = "<init>" := (name_of_methodNamed B.named B.method).1
  subst hsz
  have hD : va_D (va_A [(h0, eG0)] s.heap.size) [(h0, eG0)] := one_D A_self
  have hA : ∀ q : Nat, s.heap.size ≤ q → va_A [(h0, eG0)] s.heap.size q := A_new
  have hA2 : ∀ q : Nat, va_A [(h0, eG0)] s.heap.size q → q = h0 ∨ s.heap.size ≤ q := fun q hq => A_of hq
  generalize hAe : va_A [(h0, eG0)] s.heap.size = A at hD hA hA2 ⊢
  have hS : va_S A s.heap s.heap [] := va_S.rf
  have hl := lv_entry ([.ref h0]) (n := 1) (Nat.le_of_ble_eq_true rfl)
  rw [lg_entry_eq]
  generalize (lg_sl ([.ref h0]) ++ List.replicate (1 - (lg_sl ([.ref h0])).length) Slot.unset).toArray = ls at hl ⊢
  have hl : lv_has ls 1 [(0, .ref h0)] := hl
  refine lv_aload_n hx hb dX0_init_0 rfl (lv_at hl 0 rfl) ?_
  refine W.objInit hx hb hown (hts (.methodLink RX0 3 objectInit) (by decide +kernel)) (hts (.instanceMethod objectInit) (by decide +kernel)) (hts _ (List.mem_cons_of_mem _ (List.mem_append_left _ (List.mem_append_left _ (List.mem_of_getElem? (i := 2) rfl))))) rfl (by rw [hml]; exact hl.1) rfl dX0_init_1 (Nat.le_of_ble_eq_true rfl) (Nat.le_of_ble_eq_true rfl) ?_
  refine W.eq (g2 := F0 m 4 ls []) rfl ?_
  refine lv_aload_n hx hb dX0_init_4 rfl (lv_at hl 0 rfl) ?_
  refine va_new (ci := 2) (fs := [.int 0, .null, .null, .null]) (C := RX2) (T := TX2) (N := 4) hx hb hts (by decide +kernel) tyX2 tyX2_ok hown (hts (.classLink RX0 9 RX2) (by decide +kernel)) (hts (.instantiable RX2 4) (by decide +kernel)) (hts (.initialized RX2) (by decide +kernel)) hK hP hD hS hA rfl (fun j hj => by rcases (show j = 0 ∨ j = 1 ∨ j = 2 ∨ j = 3 by omega) with rfl | rfl | rfl | rfl <;> rfl) (show 0 + 1 ≤ 4 by omega) (show 0 + 4 ≤ 604 by omega) dX0_init_5 (fun q H hP hD hS => ?_)
  refine lv_dup hx hb dX0_init_8 rfl ?_
  have hF := A_sub hD hS hA
  have hs0 := hS.1
  refine va_callv (va_runIN (As := []) (rest := [.ref q, .ref h0]) ⟨hx, hb, hml, hown, hts⟩ (nX2_init l dC dI ci q H.size) ⟨va_cnB 0 hts gX0_init_X2_init_n11 rfl rfl rfl hN.2.2.2.2.1 (hts (.initialized RX2) (by decide +kernel)) (by decide +kernel) ⟨Nat.le_of_ble_eq_true rfl, Nat.le_of_ble_eq_true rfl⟩, rfl, hts (.instanceMethod yX2_init) (by decide +kernel)⟩ ⟨cP_blind, cP_pre (last_P hP) hK hN⟩ rfl rfl hl.1 rfl (lv_room (Nat.le_of_ble_eq_true rfl)) dX0_init_9 ⟨(show 0 + 1 + 3 ≤ 4 by omega), (show 0 + 4 + 600 ≤ 604 by omega)⟩) hS (fun x _ hx => hF x hx) hF (fun a t H1 locs ht hvm hw hB hz1 hk1 hS => ?_)
  obtain ⟨hP, hD⟩ := blk_join hP hD hk1 (x_th ht hB) hw (fun x hx => hA x (Nat.le_trans hs0 hx))
  refine va_putF (D := (dC, dI)) (ci := 0) (v := .ref q) (ty := .object "DueWheels$Line") (C := RX0) (T := TX0) (N := 1) hx hb hts (by decide +kernel) tyX0 tyX0_ok nmX0 hown hK hP hD hS 0 rfl rfl 0 (by decide) (hts (.fieldLink RX0 12 "DueWheels$Going" "line" "LDueWheels$Line;") (by decide +kernel)) (fun _ h9 => h9) rfl hin rfl (by decide +kernel) rfl rfl (Nat.le_of_ble_eq_true rfl) dX0_init_12 (fun H locs hP hD hS => ?_)
  have hP : va_P (dC, dI) vwCl ([(h0, .inr (0, [.ref q]))] ++ xw 4 a (lB a ci 0)) H := hP
  have hD : va_D A ([(h0, .inr (0, [.ref q]))] ++ xw 4 a (lB a ci 0)) := hD
  obtain ⟨c9, ec⟩ : ∃ z : Nat → Nat, z = fun k => if k = 0 then h0 else a (k - 1) := ⟨_, rfl⟩
  have c0 : c9 0 = h0 := by rw [ec]; rfl
  have cs : ∀ i, c9 (1 + i) = a i := fun i => by rw [ec]; show (if 1 + i = 0 then h0 else a (1 + i - 1)) = a i; rw [if_neg (by omega), show 1 + i - 1 = i by omega]
  have eW : [(h0, .inr (0, [.ref q]))] ++ xw 4 a (lB a ci 0) = xw 5 c9 (gB c9 ci) := by
    rw [xw_one]
    refine xw_app (fun i hi => ?_) (fun i hi => ⟨cs i, ?_⟩)
    · obtain rfl : i = 0 := by omega
      refine ⟨c0, ?_⟩
      show (Sum.inr (0, [Value.ref (c9 (1 + 0))]) : va_E) = _
      rw [cs 0, hw.1]
    · show (if 1 + i = 0 then _ else lB c9 ci 1 (1 + i - 1)) = _
      rw [if_neg (by omega), show 1 + i - 1 = i by omega]
      exact lB_congr (fun o _ => by rw [cs o, Nat.zero_add]) i
  rw [eW] at hP hD
  have hbk := blk_of_D hD hA2 c0
  refine W.cs (cells' := 4) (slots' := 604) rfl rfl ?_
  exact W.vret hx hb hr (fun t ht hW => ⟨⟨c9, rfl, hbk, x_ht ht hP⟩, hS.F ht⟩) hS.2.2 dX0_init_15
def tB (a : Nat → Nat) (ci : Nat → ClassId) (o : Nat) : va_E := if o = 0 then .inr (3, [.ref (a 1), .ref (a 5), .ref (a 6), .int 0]) else if o < 5 then lB a ci 1 (o - 1) else .inl (ci 1, 200, .inr (.inl (fun _ => 0)))
abbrev eT0 : va_E := .inr (3, [.null, .null, .null, .int 0])
set_option maxHeartbeats 4000000 in
set_option maxRecDepth 100000 in
theorem nX3_init (l : Launch) (dC : Nat → ClassId) (dI : Nat → Nat → Nat) (ci : Nat → ClassId) (h0 sz : Nat) : Met l yX3_init wsX3_init ({ frames := 2, cells := 6, slots := 1004, locals := 32 }) (va_Pc [.ref h0] (cP (dC, dI) ci h0 eT0 sz)) (va_Qv (fun a : Nat → Nat => blkD 7 a h0 sz) (fun a t => va_P (dC, dI) vwCl (xw 7 a (tB a ci)) t.heap) (va_A [(h0, eT0)] sz)) 6 1004 (va_A [(h0, eT0)] sz) := by
  refine Met.ofW (cc := cX3_init) (maxL := 1) (ret := none) (by decide) rfl ?_
  intro p e s m args below meth c s₁ B hml hv
  obtain ⟨rfl, hsz, hP, hK, hN⟩ := hv
  have hx := B.exec
  have hb := B.bytes
  have hr := B.returns
  have hts := atoms_spec (ws := wsX3_init) B.pre
  have hown : s.vm.findClass RX3 = some m.cls := findClass_of_methodNamed B.named
  have hlocks := B.notSynchronized
  have hin : meth.name = "<init>" := (name_of_methodNamed B.named B.method).1
  subst hsz
  have hD : va_D (va_A [(h0, eT0)] s.heap.size) [(h0, eT0)] := one_D A_self
  have hA : ∀ q : Nat, s.heap.size ≤ q → va_A [(h0, eT0)] s.heap.size q := A_new
  have hA2 : ∀ q : Nat, va_A [(h0, eT0)] s.heap.size q → q = h0 ∨ s.heap.size ≤ q := fun q hq => A_of hq
  generalize hAe : va_A [(h0, eT0)] s.heap.size = A at hD hA hA2 ⊢
  have hS : va_S A s.heap s.heap [] := va_S.rf
  have hl := lv_entry ([.ref h0]) (n := 1) (Nat.le_of_ble_eq_true rfl)
  rw [lg_entry_eq]
  generalize (lg_sl ([.ref h0]) ++ List.replicate (1 - (lg_sl ([.ref h0])).length) Slot.unset).toArray = ls at hl ⊢
  have hl : lv_has ls 1 [(0, .ref h0)] := hl
  refine lv_aload_n hx hb dX3_init_0 rfl (lv_at hl 0 rfl) ?_
  refine W.objInit hx hb hown (hts (.methodLink RX3 3 objectInit) (by decide +kernel)) (hts (.instanceMethod objectInit) (by decide +kernel)) (hts _ (List.mem_cons_of_mem _ (List.mem_append_left _ (List.mem_append_left _ (List.mem_of_getElem? (i := 2) rfl))))) rfl (by rw [hml]; exact hl.1) rfl dX3_init_1 (Nat.le_of_ble_eq_true rfl) (Nat.le_of_ble_eq_true rfl) ?_
  refine W.eq (g2 := F0 m 4 ls []) rfl ?_
  refine lv_aload_n hx hb dX3_init_4 rfl (lv_at hl 0 rfl) ?_
  refine va_new (ci := 2) (fs := [.int 0, .null, .null, .null]) (C := RX2) (T := TX2) (N := 4) hx hb hts (by decide +kernel) tyX2 tyX2_ok hown (hts (.classLink RX3 9 RX2) (by decide +kernel)) (hts (.instantiable RX2 4) (by decide +kernel)) (hts (.initialized RX2) (by decide +kernel)) hK hP hD hS hA rfl (fun j hj => by rcases (show j = 0 ∨ j = 1 ∨ j = 2 ∨ j = 3 by omega) with rfl | rfl | rfl | rfl <;> rfl) (show 0 + 1 ≤ 6 by omega) (show 0 + 4 ≤ 1004 by omega) dX3_init_5 (fun q H hP hD hS => ?_)
  refine lv_dup hx hb dX3_init_8 rfl ?_
  have hF := A_sub hD hS hA
  have hs0 := hS.1
  refine va_callv (va_runIN (As := []) (rest := [.ref q, .ref h0]) ⟨hx, hb, hml, hown, hts⟩ (nX2_init l dC dI ci q H.size) ⟨va_cnB 0 hts gX3_init_X2_init_n11 rfl rfl rfl hN.2.2.2.2.2.2.1 (hts (.initialized RX2) (by decide +kernel)) (by decide +kernel) ⟨Nat.le_of_ble_eq_true rfl, Nat.le_of_ble_eq_true rfl⟩, rfl, hts (.instanceMethod yX2_init) (by decide +kernel)⟩ ⟨cP_blind, cP_pre (last_P hP) hK hN⟩ rfl rfl hl.1 rfl (lv_room (Nat.le_of_ble_eq_true rfl)) dX3_init_9 ⟨(show 0 + 1 + 3 ≤ 6 by omega), (show 0 + 4 + 600 ≤ 1004 by omega)⟩) hS (fun x _ hx => hF x hx) hF (fun a t H1 locs ht hvm hwa hB hz1 hk1 hS => ?_)
  obtain ⟨hP, hD⟩ := blk_join hP hD hk1 (x_th ht hB) hwa (fun x hx => hA x (Nat.le_trans hs0 hx))
  refine va_putF (D := (dC, dI)) (ci := 3) (v := .ref q) (ty := .object "DueWheels$Line") (C := RX3) (T := TX3) (N := 4) hx hb hts (by decide +kernel) tyX3 tyX3_ok nmX3 hown hK hP hD hS 0 rfl rfl 0 (by decide) (hts (.fieldLink RX3 12 "DueWheels$Settling" "line" "LDueWheels$Line;") (by decide +kernel)) (fun _ h9 => h9) rfl hin rfl (by decide +kernel) rfl rfl (Nat.le_of_ble_eq_true rfl) dX3_init_12 (fun H locs hP hD hS => ?_)
  have hP : va_P (dC, dI) vwCl ([(h0, .inr (3, [.ref q, .null, .null, .int 0]))] ++ xw 4 a (lB a ci 0)) H := hP
  have hD : va_D A ([(h0, .inr (3, [.ref q, .null, .null, .int 0]))] ++ xw 4 a (lB a ci 0)) := hD
  refine lv_aload_n hx hb dX3_init_15 rfl (lv_at hl 0 rfl) ?_
  refine lv_sipush (v := (200 : Int32)) hx hb dX3_init_16 (by decide) ?_
  refine va_newa (atype := .long) (ty := .long) (a0 := (200, .inr (.inl (fun _ => 0)))) (N' := 200) hx hb (hts (.arrayClass .long) (by decide +kernel)) rfl hK hP hD hS hA (fun cA => rfl) (by decide) (by decide) (by decide +kernel) (show 0 + 1 + 3 + 1 ≤ 6 by omega) (show 0 + 4 + 600 + 200 ≤ 1004 by omega) dX3_init_19 (fun q5 cA H hK1 hP hD hS => ?_)
  obtain rfl : cA = ci 1 := ci_eq hK1 5 1 rfl rfl
  refine va_putF (D := (dC, dI)) (ci := 3) (v := .ref q5) (ty := .array .long) (C := RX3) (T := TX3) (N := 4) hx hb hts (by decide +kernel) tyX3 tyX3_ok nmX3 hown hK hP hD hS 0 rfl rfl 1 (by decide) (hts (.fieldLink RX3 18 "DueWheels$Settling" "settled" "[J") (by decide +kernel)) (fun _ h9 => h9) rfl hin rfl (by decide +kernel) rfl rfl (Nat.le_of_ble_eq_true rfl) dX3_init_21 (fun H locs hP hD hS => ?_)
  have hP : va_P (dC, dI) vwCl ([(h0, .inr (3, [.ref q, .ref q5, .null, .int 0]))] ++ xw 4 a (lB a ci 0) ++ [(q5, .inl (ci 1, 200, .inr (.inl (fun _ => 0))))]) H := hP
  have hD : va_D A ([(h0, .inr (3, [.ref q, .ref q5, .null, .int 0]))] ++ xw 4 a (lB a ci 0) ++ [(q5, .inl (ci 1, 200, .inr (.inl (fun _ => 0))))]) := hD
  refine lv_aload_n hx hb dX3_init_24 rfl (lv_at hl 0 rfl) ?_
  refine lv_sipush (v := (200 : Int32)) hx hb dX3_init_25 (by decide) ?_
  refine va_newa (atype := .long) (ty := .long) (a0 := (200, .inr (.inl (fun _ => 0)))) (N' := 200) hx hb (hts (.arrayClass .long) (by decide +kernel)) rfl hK hP hD hS hA (fun cA => rfl) (by decide) (by decide) (by decide +kernel) (show 0 + 1 + 3 + 1 + 1 ≤ 6 by omega) (show 0 + 4 + 600 + 200 + 200 ≤ 1004 by omega) dX3_init_28 (fun q6 cA H hK1 hP hD hS => ?_)
  obtain rfl : cA = ci 1 := ci_eq hK1 5 1 rfl rfl
  refine va_putF (D := (dC, dI)) (ci := 3) (v := .ref q6) (ty := .array .long) (C := RX3) (T := TX3) (N := 4) hx hb hts (by decide +kernel) tyX3 tyX3_ok nmX3 hown hK hP hD hS 0 rfl rfl 2 (by decide) (hts (.fieldLink RX3 22 "DueWheels$Settling" "fast" "[J") (by decide +kernel)) (fun _ h9 => h9) rfl hin rfl (by decide +kernel) rfl rfl (Nat.le_of_ble_eq_true rfl) dX3_init_30 (fun H locs hP hD hS => ?_)
  have hP : va_P (dC, dI) vwCl ([(h0, .inr (3, [.ref q, .ref q5, .ref q6, .int 0]))] ++ xw 4 a (lB a ci 0) ++ [(q5, .inl (ci 1, 200, .inr (.inl (fun _ => 0))))] ++ [(q6, .inl (ci 1, 200, .inr (.inl (fun _ => 0))))]) H := hP
  have hD : va_D A ([(h0, .inr (3, [.ref q, .ref q5, .ref q6, .int 0]))] ++ xw 4 a (lB a ci 0) ++ [(q5, .inl (ci 1, 200, .inr (.inl (fun _ => 0))))] ++ [(q6, .inl (ci 1, 200, .inr (.inl (fun _ => 0))))]) := hD
  obtain ⟨c9, ec⟩ : ∃ z : Nat → Nat, z = fun k => if k = 0 then h0 else if k < 5 then a (k - 1) else if k = 5 then q5 else q6 := ⟨_, rfl⟩
  have c0 : c9 0 = h0 := by rw [ec]; rfl
  have cs : ∀ i, i < 4 → c9 (1 + i) = a i := fun i hi => by rw [ec]; show (if 1 + i = 0 then h0 else if 1 + i < 5 then a (1 + i - 1) else if 1 + i = 5 then q5 else q6) = a i; rw [if_neg (by omega), if_pos (by omega), show 1 + i - 1 = i by omega]
  have c5 : c9 5 = q5 := by rw [ec]; rfl
  have c6 : c9 6 = q6 := by rw [ec]; rfl
  have eW : [(h0, .inr (3, [.ref q, .ref q5, .ref q6, .int 0]))] ++ xw 4 a (lB a ci 0) ++ [(q5, .inl (ci 1, 200, .inr (.inl (fun _ => 0))))] ++ [(q6, .inl (ci 1, 200, .inr (.inl (fun _ => 0))))] = xw 7 c9 (tB c9 ci) := by
    have f0 : tB c9 ci 0 = .inr (3, [.ref q, .ref q5, .ref q6, .int 0]) := by
      show (Sum.inr (3, [Value.ref (c9 (1 + 0)), .ref (c9 5), .ref (c9 6), .int 0]) : va_E) = _
      rw [cs 0 (by omega), hwa.1, c5, c6]
    have fl : ∀ i, i < 4 → tB c9 ci (1 + i) = lB a ci 0 i := fun i hi => by
      show (if 1 + i = 0 then _ else if 1 + i < 5 then lB c9 ci 1 (1 + i - 1) else _) = _
      rw [if_neg (by omega), if_pos (by omega), show 1 + i - 1 = i by omega]
      exact lB_congr (fun o ho => by rw [cs o ho, Nat.zero_add]) i
    have e1 : [(h0, .inr (3, [.ref q, .ref q5, .ref q6, .int 0]))] ++ xw 4 a (lB a ci 0) = xw 5 c9 (tB c9 ci) := by
      rw [xw_one]
      refine xw_app (fun i hi => ?_) (fun i hi => ⟨cs i hi, fl i hi⟩)
      obtain rfl : i = 0 := by omega
      exact ⟨c0, f0⟩
    have e2 : xw 5 c9 (tB c9 ci) ++ [(q5, .inl (ci 1, 200, .inr (.inl (fun _ => 0))))] = xw 6 c9 (tB c9 ci) := by
      rw [xw_one]
      refine xw_app (fun i hi => ⟨rfl, rfl⟩) (fun i hi => ?_)
      obtain rfl : i = 0 := by omega
      exact ⟨c5, rfl⟩
    have e3 : xw 6 c9 (tB c9 ci) ++ [(q6, .inl (ci 1, 200, .inr (.inl (fun _ => 0))))] = xw 7 c9 (tB c9 ci) := by
      rw [xw_one]
      refine xw_app (fun i hi => ⟨rfl, rfl⟩) (fun i hi => ?_)
      obtain rfl : i = 0 := by omega
      exact ⟨c6, rfl⟩
    rw [e1, e2, e3]
  rw [eW] at hP hD
  have hbk := blk_of_D hD hA2 c0
  refine W.cs (cells' := 6) (slots' := 1004) rfl rfl ?_
  exact W.vret hx hb hr (fun t ht hW => ⟨⟨c9, rfl, hbk, x_ht ht hP⟩, hS.F ht⟩) hS.2.2 dX3_init_33
def kB (a : Nat → Nat) (ci : Nat → ClassId) (o : Nat) : va_E := if o = 0 then .inr (1, [.ref (a 1), .int 0, .int 0]) else .inl (ci 3, 6, x_q (fun _ => none))
abbrev eK0 : va_E := .inr (1, [.null, .int 0, .int 0])
set_option maxHeartbeats 4000000 in
set_option maxRecDepth 100000 in
theorem nX1_init (l : Launch) (dC : Nat → ClassId) (dI : Nat → Nat → Nat) (ci : Nat → ClassId) (h0 sz : Nat) : Met l yX1_init wsX1_init ({ frames := 1, cells := 1, slots := 6, locals := 12 }) (va_Pc [.ref h0] (cP (dC, dI) ci h0 eK0 sz)) (va_Qv (fun a : Nat → Nat => blkD 2 a h0 sz) (fun a t => va_P (dC, dI) vwCl (xw 2 a (kB a ci)) t.heap) (va_A [(h0, eK0)] sz)) 1 6 (va_A [(h0, eK0)] sz) := by
  refine Met.ofW (cc := cX1_init) (maxL := 1) (ret := none) (by decide) rfl ?_
  intro p e s m args below meth c s₁ B hml hv
  obtain ⟨rfl, hsz, hP, hK, hN⟩ := hv
  have hx := B.exec
  have hb := B.bytes
  have hr := B.returns
  have hts := atoms_spec (ws := wsX1_init) B.pre
  have hown : s.vm.findClass RX1 = some m.cls := findClass_of_methodNamed B.named
  have hlocks := B.notSynchronized
  have hin : meth.name = "<init>" := (name_of_methodNamed B.named B.method).1
  subst hsz
  have hD : va_D (va_A [(h0, eK0)] s.heap.size) [(h0, eK0)] := one_D A_self
  have hA : ∀ q : Nat, s.heap.size ≤ q → va_A [(h0, eK0)] s.heap.size q := A_new
  have hA2 : ∀ q : Nat, va_A [(h0, eK0)] s.heap.size q → q = h0 ∨ s.heap.size ≤ q := fun q hq => A_of hq
  generalize hAe : va_A [(h0, eK0)] s.heap.size = A at hD hA hA2 ⊢
  have hS : va_S A s.heap s.heap [] := va_S.rf
  have hl := lv_entry ([.ref h0]) (n := 1) (Nat.le_of_ble_eq_true rfl)
  rw [lg_entry_eq]
  generalize (lg_sl ([.ref h0]) ++ List.replicate (1 - (lg_sl ([.ref h0])).length) Slot.unset).toArray = ls at hl ⊢
  have hl : lv_has ls 1 [(0, .ref h0)] := hl
  refine lv_aload_n hx hb dX1_init_0 rfl (lv_at hl 0 rfl) ?_
  refine W.objInit hx hb hown (hts (.methodLink RX1 3 objectInit) (by decide +kernel)) (hts (.instanceMethod objectInit) (by decide +kernel)) (hts (.code objectInit ⟨#[0xb1]⟩ 1 none) (by decide +kernel)) rfl (by rw [hml]; exact hl.1) rfl dX1_init_1 (Nat.le_of_ble_eq_true rfl) (Nat.le_of_ble_eq_true rfl) ?_
  refine W.eq (g2 := F0 m 4 ls []) rfl ?_
  refine lv_aload_n hx hb dX1_init_4 rfl (lv_at hl 0 rfl) ?_
  refine lv_bipush (v := (6 : Int32)) hx hb dX1_init_5 (by decide) ?_
  refine va_newq (C := RX4) (N' := 6) hx hb hown (hts (.classLink RX1 9 RX4) (by decide +kernel)) hN.1 hK hP hD hS hA (by decide) (by decide) (by decide +kernel) (show 0 + 1 ≤ 1 by omega) (show 0 + 6 ≤ 6 by omega) dX1_init_7 (fun qr cA H hK1 hP hD hS => ?_)
  obtain rfl : cA = ci 3 := ci_eq (ty := .object RX4) hK1 5 3 rfl rfl
  refine va_putF (D := (dC, dI)) (ci := 1) (v := .ref qr) (ty := .array (.object "DueWheels$State")) (C := RX1) (T := TX1) (N := 3) hx hb hts (by decide +kernel) tyX1 tyX1_ok nmX1 hown hK hP hD hS 0 rfl rfl 0 (by decide) (hts (.fieldLink RX1 11 "DueWheels$Kept" "ring" "[LDueWheels$State;") (by decide +kernel)) (fun _ h9 => h9) rfl hin rfl (by decide +kernel) rfl rfl (Nat.le_of_ble_eq_true rfl) dX1_init_10 (fun H locs hP hD hS => ?_)
  have hP : va_P (dC, dI) vwCl ([(h0, .inr (1, [.ref qr, .int 0, .int 0])), (qr, .inl (ci 3, 6, x_q (fun _ => none)))]) H := hP
  have hD : va_D A ([(h0, .inr (1, [.ref qr, .int 0, .int 0])), (qr, .inl (ci 3, 6, x_q (fun _ => none)))]) := hD
  obtain ⟨c9, ec⟩ : ∃ z : Nat → Nat, z = fun k => if k = 0 then h0 else qr := ⟨_, rfl⟩
  have c0 : c9 0 = h0 := by rw [ec]; rfl
  have c1 : c9 1 = qr := by rw [ec]; rfl
  have eW : ([(h0, .inr (1, [.ref qr, .int 0, .int 0])), (qr, .inl (ci 3, 6, x_q (fun _ => none)))] : va_W) = xw 2 c9 (kB c9 ci) := by
    show _ = [(c9 0, kB c9 ci 0), (c9 1, kB c9 ci 1)]
    have f0 : kB c9 ci 0 = .inr (1, [.ref (c9 1), .int 0, .int 0]) := rfl
    rw [f0, c0, c1]
    rfl
  rw [eW] at hP hD
  have hbk := blk_of_D hD hA2 c0
  refine W.cs (cells' := 1) (slots' := 6) rfl rfl ?_
  exact W.vret hx hb hr (fun t ht hW => ⟨⟨c9, rfl, hbk, x_ht ht hP⟩, hS.F ht⟩) hS.2.2 dX1_init_13
