/-! the constructors of the model and of DueWheels -/
def r0M : MmV := (fun _ => 0, fun _ => 0, 0, fun _ => 0, 0, fun _ => 0, fun _ => 0, 0, fun _ => 0)
abbrev eM0 : va_E := .inr (6, [.null, .null, .int 0, .null, .int 0, .null, .null, .int 0, .null])
set_option maxHeartbeats 4000000 in
set_option maxRecDepth 100000 in
theorem nX7_init (l : Launch) (dC : Nat → ClassId) (dI : Nat → Nat → Nat) (ci : Nat → ClassId) (h0 sz : Nat) : Met l yX7_init wsX7_init ({ frames := 1, cells := 6, slots := 26735, locals := 12 }) (va_Pc [.ref h0] (cP (dC, dI) ci h0 eM0 sz)) (va_Qv (fun a : Nat → Nat => blkD 7 a h0 sz) (fun a t => va_P (dC, dI) vwCl (xw 7 a (mc a ci r0M)) t.heap) (va_A [(h0, eM0)] sz)) 6 26735 (va_A [(h0, eM0)] sz) := by
  refine Met.ofW (cc := cX7_init) (maxL := 1) (ret := none) (by decide) rfl ?_
  intro p e s m args below meth c s₁ B hml hv
  obtain ⟨rfl, hsz, hP, hK, hN⟩ := hv
  have hx := B.exec
  have hb := B.bytes
  have hr := B.returns
  have hts := atoms_spec (ws := wsX7_init) B.pre
  have hown : s.vm.findClass RX7 = some m.cls := findClass_of_methodNamed B.named
  have hlocks := B.notSynchronized
  have hin : meth.name = "<init>" := (name_of_methodNamed B.named B.method).1
  subst hsz
  have hD : va_D (va_A [(h0, eM0)] s.heap.size) [(h0, eM0)] := one_D A_self
  have hA : ∀ q : Nat, s.heap.size ≤ q → va_A [(h0, eM0)] s.heap.size q := A_new
  have hA2 : ∀ q : Nat, va_A [(h0, eM0)] s.heap.size q → q = h0 ∨ s.heap.size ≤ q := fun q hq => A_of hq
  generalize hAe : va_A [(h0, eM0)] s.heap.size = A at hD hA hA2 ⊢
  have hS : va_S A s.heap s.heap [] := va_S.rf
  have hl := lv_entry ([.ref h0]) (n := 1) (Nat.le_of_ble_eq_true rfl)
  rw [lg_entry_eq]
  generalize (lg_sl ([.ref h0]) ++ List.replicate (1 - (lg_sl ([.ref h0])).length) Slot.unset).toArray = ls at hl ⊢
  have hl : lv_has ls 1 [(0, .ref h0)] := hl
  refine lv_aload_n hx hb dX7_init_0 rfl (lv_at hl 0 rfl) ?_
  refine W.objInit hx hb hown (hts (.methodLink RX7 1 objectInit) (by decide +kernel)) (hts (.instanceMethod objectInit) (by decide +kernel)) (hts (.code objectInit ⟨#[0xb1]⟩ 1 none) (by decide +kernel)) rfl (by rw [hml]; exact hl.1) rfl dX7_init_1 (Nat.le_of_ble_eq_true rfl) (Nat.le_of_ble_eq_true rfl) ?_
  refine W.eq (g2 := F0 m 4 ls []) rfl ?_
  refine lv_aload_n hx hb dX7_init_4 rfl (lv_at hl 0 rfl) ?_
  refine lv_sipush (v := (3705 : Int32)) hx hb dX7_init_5 (by decide) ?_
  refine va_newa (atype := .long) (ty := .long) (a0 := (3705, .inr (.inl (fun _ => 0)))) (N' := 3705) hx hb (hts (.arrayClass .long) (by decide +kernel)) rfl hK hP hD hS hA (fun cA => rfl) (by decide) (by decide) (by decide +kernel) (show 0 + 1 ≤ 6 by omega) (show 0 + 3705 ≤ 26735 by omega) dX7_init_8 (fun q1 cA H hK1 hP hD hS => ?_)
  obtain rfl : cA = ci 1 := ci_eq hK1 5 1 rfl rfl
  refine va_putF (D := (dC, dI)) (ci := 6) (v := .ref q1) (ty := .array .long) (C := RX7) (T := TX7) (N := 9) hx hb hts (by decide +kernel) tyX7 tyX7_ok nmX7 hown hK hP hD hS 0 rfl rfl 0 (by decide) (hts (.fieldLink RX7 7 "DueWheelsModel" "s" "[J") (by decide +kernel)) (fun _ h9 => h9) rfl hin rfl (by decide +kernel) rfl rfl (Nat.le_of_ble_eq_true rfl) dX7_init_10 (fun H locs hP hD hS => ?_)
  have hP : va_P (dC, dI) vwCl ([(h0, .inr (6, [.ref q1, .null, .int 0, .null, .int 0, .null, .null, .int 0, .null])), (q1, .inl (ci 1, 3705, .inr (.inl (fun _ => 0))))]) H := hP
  have hD : va_D A ([(h0, .inr (6, [.ref q1, .null, .int 0, .null, .int 0, .null, .null, .int 0, .null])), (q1, .inl (ci 1, 3705, .inr (.inl (fun _ => 0))))]) := hD
  refine lv_aload_n hx hb dX7_init_13 rfl (lv_at hl 0 rfl) ?_
  refine lv_sipush (v := (22230 : Int32)) hx hb dX7_init_14 (by decide) ?_
  refine va_newa (atype := .long) (ty := .long) (a0 := (22230, .inr (.inl (fun _ => 0)))) (N' := 22230) hx hb (hts (.arrayClass .long) (by decide +kernel)) rfl hK hP hD hS hA (fun cA => rfl) (by decide) (by decide) (by decide +kernel) (show 0 + 1 + 1 ≤ 6 by omega) (show 0 + 3705 + 22230 ≤ 26735 by omega) dX7_init_17 (fun q2 cA H hK1 hP hD hS => ?_)
  obtain rfl : cA = ci 1 := ci_eq hK1 5 1 rfl rfl
  refine va_putF (D := (dC, dI)) (ci := 6) (v := .ref q2) (ty := .array .long) (C := RX7) (T := TX7) (N := 9) hx hb hts (by decide +kernel) tyX7 tyX7_ok nmX7 hown hK hP hD hS 0 rfl rfl 1 (by decide) (hts (.fieldLink RX7 13 "DueWheelsModel" "before" "[J") (by decide +kernel)) (fun _ h9 => h9) rfl hin rfl (by decide +kernel) rfl rfl (Nat.le_of_ble_eq_true rfl) dX7_init_19 (fun H locs hP hD hS => ?_)
  have hP : va_P (dC, dI) vwCl ([(h0, .inr (6, [.ref q1, .ref q2, .int 0, .null, .int 0, .null, .null, .int 0, .null])), (q1, .inl (ci 1, 3705, .inr (.inl (fun _ => 0)))), (q2, .inl (ci 1, 22230, .inr (.inl (fun _ => 0))))]) H := hP
  have hD : va_D A ([(h0, .inr (6, [.ref q1, .ref q2, .int 0, .null, .int 0, .null, .null, .int 0, .null])), (q1, .inl (ci 1, 3705, .inr (.inl (fun _ => 0)))), (q2, .inl (ci 1, 22230, .inr (.inl (fun _ => 0))))]) := hD
  refine lv_aload_n hx hb dX7_init_22 rfl (lv_at hl 0 rfl) ?_
  refine lv_sipush (v := (200 : Int32)) hx hb dX7_init_23 (by decide) ?_
  refine va_newa (atype := .int) (ty := .int) (a0 := (200, .inl (fun _ => 0))) (N' := 200) hx hb (hts (.arrayClass .int) (by decide +kernel)) rfl hK hP hD hS hA (fun cA => rfl) (by decide) (by decide) (by decide +kernel) (show 0 + 1 + 1 + 1 ≤ 6 by omega) (show 0 + 3705 + 22230 + 200 ≤ 26735 by omega) dX7_init_26 (fun q3 cA H hK1 hP hD hS => ?_)
  obtain rfl : cA = ci 0 := ci_eq hK1 5 0 rfl rfl
  refine va_putF (D := (dC, dI)) (ci := 6) (v := .ref q3) (ty := .array .int) (C := RX7) (T := TX7) (N := 9) hx hb hts (by decide +kernel) tyX7 tyX7_ok nmX7 hown hK hP hD hS 0 rfl rfl 3 (by decide) (hts (.fieldLink RX7 16 "DueWheelsModel" "goers" "[I") (by decide +kernel)) (fun _ h9 => h9) rfl hin rfl (by decide +kernel) rfl rfl (Nat.le_of_ble_eq_true rfl) dX7_init_28 (fun H locs hP hD hS => ?_)
  have hP : va_P (dC, dI) vwCl ([(h0, .inr (6, [.ref q1, .ref q2, .int 0, .ref q3, .int 0, .null, .null, .int 0, .null])), (q1, .inl (ci 1, 3705, .inr (.inl (fun _ => 0)))), (q2, .inl (ci 1, 22230, .inr (.inl (fun _ => 0)))), (q3, .inl (ci 0, 200, .inl (fun _ => 0)))]) H := hP
  have hD : va_D A ([(h0, .inr (6, [.ref q1, .ref q2, .int 0, .ref q3, .int 0, .null, .null, .int 0, .null])), (q1, .inl (ci 1, 3705, .inr (.inl (fun _ => 0)))), (q2, .inl (ci 1, 22230, .inr (.inl (fun _ => 0)))), (q3, .inl (ci 0, 200, .inl (fun _ => 0)))]) := hD
  refine lv_aload_n hx hb dX7_init_31 rfl (lv_at hl 0 rfl) ?_
  refine lv_sipush (v := (200 : Int32)) hx hb dX7_init_32 (by decide) ?_
  refine va_newa (atype := .int) (ty := .int) (a0 := (200, .inl (fun _ => 0))) (N' := 200) hx hb (hts (.arrayClass .int) (by decide +kernel)) rfl hK hP hD hS hA (fun cA => rfl) (by decide) (by decide) (by decide +kernel) (show 0 + 1 + 1 + 1 + 1 ≤ 6 by omega) (show 0 + 3705 + 22230 + 200 + 200 ≤ 26735 by omega) dX7_init_35 (fun q4 cA H hK1 hP hD hS => ?_)
  obtain rfl : cA = ci 0 := ci_eq hK1 5 0 rfl rfl
  refine va_putF (D := (dC, dI)) (ci := 6) (v := .ref q4) (ty := .array .int) (C := RX7) (T := TX7) (N := 9) hx hb hts (by decide +kernel) tyX7 tyX7_ok nmX7 hown hK hP hD hS 0 rfl rfl 5 (by decide) (hts (.fieldLink RX7 20 "DueWheelsModel" "loose" "[I") (by decide +kernel)) (fun _ h9 => h9) rfl hin rfl (by decide +kernel) rfl rfl (Nat.le_of_ble_eq_true rfl) dX7_init_37 (fun H locs hP hD hS => ?_)
  have hP : va_P (dC, dI) vwCl ([(h0, .inr (6, [.ref q1, .ref q2, .int 0, .ref q3, .int 0, .ref q4, .null, .int 0, .null])), (q1, .inl (ci 1, 3705, .inr (.inl (fun _ => 0)))), (q2, .inl (ci 1, 22230, .inr (.inl (fun _ => 0)))), (q3, .inl (ci 0, 200, .inl (fun _ => 0))), (q4, .inl (ci 0, 200, .inl (fun _ => 0)))]) H := hP
  have hD : va_D A ([(h0, .inr (6, [.ref q1, .ref q2, .int 0, .ref q3, .int 0, .ref q4, .null, .int 0, .null])), (q1, .inl (ci 1, 3705, .inr (.inl (fun _ => 0)))), (q2, .inl (ci 1, 22230, .inr (.inl (fun _ => 0)))), (q3, .inl (ci 0, 200, .inl (fun _ => 0))), (q4, .inl (ci 0, 200, .inl (fun _ => 0)))]) := hD
  refine lv_aload_n hx hb dX7_init_40 rfl (lv_at hl 0 rfl) ?_
  refine lv_sipush (v := (200 : Int32)) hx hb dX7_init_41 (by decide) ?_
  refine va_newa (atype := .long) (ty := .long) (a0 := (200, .inr (.inl (fun _ => 0)))) (N' := 200) hx hb (hts (.arrayClass .long) (by decide +kernel)) rfl hK hP hD hS hA (fun cA => rfl) (by decide) (by decide) (by decide +kernel) (show 0 + 1 + 1 + 1 + 1 + 1 ≤ 6 by omega) (show 0 + 3705 + 22230 + 200 + 200 + 200 ≤ 26735 by omega) dX7_init_44 (fun q5 cA H hK1 hP hD hS => ?_)
  obtain rfl : cA = ci 1 := ci_eq hK1 5 1 rfl rfl
  refine va_putF (D := (dC, dI)) (ci := 6) (v := .ref q5) (ty := .array .long) (C := RX7) (T := TX7) (N := 9) hx hb hts (by decide +kernel) tyX7 tyX7_ok nmX7 hown hK hP hD hS 0 rfl rfl 6 (by decide) (hts (.fieldLink RX7 23 "DueWheelsModel" "ticks" "[J") (by decide +kernel)) (fun _ h9 => h9) rfl hin rfl (by decide +kernel) rfl rfl (Nat.le_of_ble_eq_true rfl) dX7_init_46 (fun H locs hP hD hS => ?_)
  have hP : va_P (dC, dI) vwCl ([(h0, .inr (6, [.ref q1, .ref q2, .int 0, .ref q3, .int 0, .ref q4, .ref q5, .int 0, .null])), (q1, .inl (ci 1, 3705, .inr (.inl (fun _ => 0)))), (q2, .inl (ci 1, 22230, .inr (.inl (fun _ => 0)))), (q3, .inl (ci 0, 200, .inl (fun _ => 0))), (q4, .inl (ci 0, 200, .inl (fun _ => 0))), (q5, .inl (ci 1, 200, .inr (.inl (fun _ => 0))))]) H := hP
  have hD : va_D A ([(h0, .inr (6, [.ref q1, .ref q2, .int 0, .ref q3, .int 0, .ref q4, .ref q5, .int 0, .null])), (q1, .inl (ci 1, 3705, .inr (.inl (fun _ => 0)))), (q2, .inl (ci 1, 22230, .inr (.inl (fun _ => 0)))), (q3, .inl (ci 0, 200, .inl (fun _ => 0))), (q4, .inl (ci 0, 200, .inl (fun _ => 0))), (q5, .inl (ci 1, 200, .inr (.inl (fun _ => 0))))]) := hD
  refine lv_aload_n hx hb dX7_init_49 rfl (lv_at hl 0 rfl) ?_
  refine lv_sipush (v := (200 : Int32)) hx hb dX7_init_50 (by decide) ?_
  refine va_newa (atype := .boolean) (ty := .boolean) (a0 := (200, .inl (fun _ => 0))) (N' := 200) hx hb (hts (.arrayClass .boolean) (by decide +kernel)) rfl hK hP hD hS hA (fun cA => rfl) (by decide) (by decide) (by decide +kernel) (show 0 + 1 + 1 + 1 + 1 + 1 + 1 ≤ 6 by omega) (show 0 + 3705 + 22230 + 200 + 200 + 200 + 200 ≤ 26735 by omega) dX7_init_53 (fun q6 cA H hK1 hP hD hS => ?_)
  obtain rfl : cA = ci 2 := ci_eq hK1 5 2 rfl rfl
  refine va_putF (D := (dC, dI)) (ci := 6) (v := .ref q6) (ty := .array .boolean) (C := RX7) (T := TX7) (N := 9) hx hb hts (by decide +kernel) tyX7 tyX7_ok nmX7 hown hK hP hD hS 0 rfl rfl 8 (by decide) (hts (.fieldLink RX7 26 "DueWheelsModel" "isFast" "[Z") (by decide +kernel)) (fun _ h9 => h9) rfl hin rfl (by decide +kernel) rfl rfl (Nat.le_of_ble_eq_true rfl) dX7_init_55 (fun H locs hP hD hS => ?_)
  have hP : va_P (dC, dI) vwCl ([(h0, .inr (6, [.ref q1, .ref q2, .int 0, .ref q3, .int 0, .ref q4, .ref q5, .int 0, .ref q6])), (q1, .inl (ci 1, 3705, .inr (.inl (fun _ => 0)))), (q2, .inl (ci 1, 22230, .inr (.inl (fun _ => 0)))), (q3, .inl (ci 0, 200, .inl (fun _ => 0))), (q4, .inl (ci 0, 200, .inl (fun _ => 0))), (q5, .inl (ci 1, 200, .inr (.inl (fun _ => 0)))), (q6, .inl (ci 2, 200, .inl (fun _ => 0)))]) H := hP
  have hD : va_D A ([(h0, .inr (6, [.ref q1, .ref q2, .int 0, .ref q3, .int 0, .ref q4, .ref q5, .int 0, .ref q6])), (q1, .inl (ci 1, 3705, .inr (.inl (fun _ => 0)))), (q2, .inl (ci 1, 22230, .inr (.inl (fun _ => 0)))), (q3, .inl (ci 0, 200, .inl (fun _ => 0))), (q4, .inl (ci 0, 200, .inl (fun _ => 0))), (q5, .inl (ci 1, 200, .inr (.inl (fun _ => 0)))), (q6, .inl (ci 2, 200, .inl (fun _ => 0)))]) := hD
  refine lv_aload_n hx hb dX7_init_58 rfl (lv_at hl 0 rfl) ?_
  refine lv_iconst (v := (0 : Int32)) hx hb dX7_init_59 (by decide) ?_
  refine va_put (D := (dC, dI)) (ci := 6) (v := .int 0) (ty := .int) (C := RX7) (T := TX7) (N := 9) hx hb hts (by decide +kernel) tyX7 tyX7_ok nmX7 hown hK hP hD hS 0 rfl rfl 2 (by decide) (hts (.fieldLink RX7 30 "DueWheelsModel" "kept" "I") (by decide +kernel)) (fun _ h9 => h9) rfl (by decide +kernel) rfl rfl (Nat.le_of_ble_eq_true rfl) dX7_init_60 (fun H locs hP hD hS => ?_)
  have hP : va_P (dC, dI) vwCl ([(h0, .inr (6, [.ref q1, .ref q2, .int 0, .ref q3, .int 0, .ref q4, .ref q5, .int 0, .ref q6])), (q1, .inl (ci 1, 3705, .inr (.inl (fun _ => 0)))), (q2, .inl (ci 1, 22230, .inr (.inl (fun _ => 0)))), (q3, .inl (ci 0, 200, .inl (fun _ => 0))), (q4, .inl (ci 0, 200, .inl (fun _ => 0))), (q5, .inl (ci 1, 200, .inr (.inl (fun _ => 0)))), (q6, .inl (ci 2, 200, .inl (fun _ => 0)))]) H := hP
  have hD : va_D A ([(h0, .inr (6, [.ref q1, .ref q2, .int 0, .ref q3, .int 0, .ref q4, .ref q5, .int 0, .ref q6])), (q1, .inl (ci 1, 3705, .inr (.inl (fun _ => 0)))), (q2, .inl (ci 1, 22230, .inr (.inl (fun _ => 0)))), (q3, .inl (ci 0, 200, .inl (fun _ => 0))), (q4, .inl (ci 0, 200, .inl (fun _ => 0))), (q5, .inl (ci 1, 200, .inr (.inl (fun _ => 0)))), (q6, .inl (ci 2, 200, .inl (fun _ => 0)))]) := hD
  obtain ⟨c9, ec⟩ : ∃ z : Nat → Nat, z = fun k => if k = 0 then h0 else if k = 1 then q1 else if k = 2 then q2 else if k = 3 then q3 else if k = 4 then q4 else if k = 5 then q5 else q6 := ⟨_, rfl⟩
  have c0 : c9 0 = h0 := by rw [ec]; rfl
  have c1 : c9 1 = q1 := by rw [ec]; rfl
  have c2 : c9 2 = q2 := by rw [ec]; rfl
  have c3 : c9 3 = q3 := by rw [ec]; rfl
  have c4 : c9 4 = q4 := by rw [ec]; rfl
  have c5 : c9 5 = q5 := by rw [ec]; rfl
  have c6 : c9 6 = q6 := by rw [ec]; rfl
  have eW : [(h0, .inr (6, [.ref q1, .ref q2, .int 0, .ref q3, .int 0, .ref q4, .ref q5, .int 0, .ref q6])), (q1, .inl (ci 1, 3705, .inr (.inl (fun _ => 0)))), (q2, .inl (ci 1, 22230, .inr (.inl (fun _ => 0)))), (q3, .inl (ci 0, 200, .inl (fun _ => 0))), (q4, .inl (ci 0, 200, .inl (fun _ => 0))), (q5, .inl (ci 1, 200, .inr (.inl (fun _ => 0)))), (q6, .inl (ci 2, 200, .inl (fun _ => 0)))] = xw 7 c9 (mc c9 ci r0M) := by
    show _ = [(c9 0, mc c9 ci r0M 0), (c9 1, mc c9 ci r0M 1), (c9 2, mc c9 ci r0M 2), (c9 3, mc c9 ci r0M 3), (c9 4, mc c9 ci r0M 4), (c9 5, mc c9 ci r0M 5), (c9 6, mc c9 ci r0M 6)]
    have f0 : mc c9 ci r0M 0 = .inr (6, [.ref (c9 1), .ref (c9 2), .int 0, .ref (c9 3), .int 0, .ref (c9 4), .ref (c9 5), .int 0, .ref (c9 6)]) := rfl
    rw [f0, c0, c1, c2, c3, c4, c5, c6]
    rfl
  rw [eW] at hP hD
  have hbk := blk_of_D hD hA2 c0
  refine W.cs (cells' := 6) (slots' := 26735) rfl rfl ?_
  exact W.vret hx hb hr (fun t ht hW => ⟨⟨c9, rfl, hbk, x_ht ht hP⟩, hS.F ht⟩) hS.2.2 dX7_init_63
def ln0 : Nat → LnV := fun _ => (0, fun _ => 0, fun _ => 0, fun _ => 0)
def sv0 : SvV := (fun _ => 0, fun _ => 0, 0)
def kv0 : KvV := (fun _ => 7, 0, 0, 1)
theorem at_l {ad b : Nat → Nat} {ci : Nat → ClassId} {g p o : Nat} (h : ∀ o, o < 4 → ad (4 + 5 * g + o) = b (p + o)) : xl ad ci g (ln0 g) o = lB b ci p o := by
  unfold xl lB
  have e1 : ad (xaLd g) = b (p + 1) := h 1 (by omega)
  have e2 : ad (xaLf g) = b (p + 2) := h 2 (by omega)
  have e3 : ad (xaLs g) = b (p + 3) := h 3 (by omega)
  rw [e1, e2, e3]
  by_cases h0 : o = 0
  · rw [if_pos h0, if_pos h0]; rfl
  · by_cases h1 : o = 1
    · rw [if_neg h0, if_neg h0, if_pos h1, if_pos h1]; rfl
    · rw [if_neg h0, if_neg h0, if_neg h1, if_neg h1]
      by_cases h2 : o = 2
      · rw [if_pos h2]; rfl
      · rw [if_neg h2]; rfl
abbrev eX0 : va_E := .inr (5, [.null, .null, .null, .null])
def c33 (h0 : Nat) (aK aG aT aZ : Nat → Nat) (k : Nat) : Nat := if k = 0 then h0 else if k < 3 then aK (k - 1) else if k < 8 then aG (k - 3) else if k < 15 then aT (k - 8) else aZ (k - 15)
def f33 (ci : Nat → ClassId) (e : va_E) (aK aG aT aZ : Nat → Nat) (k : Nat) : va_E := if k = 0 then e else if k < 3 then kB aK ci (k - 1) else if k < 8 then gB aG ci (k - 3) else if k < 15 then tB aT ci (k - 8) else sB aZ ci 0 (k - 15)
theorem x33 (ci : Nat → ClassId) (h0 : Nat) (e : va_E) (aK aG aT aZ : Nat → Nat) : [(h0, e)] ++ xw 2 aK (kB aK ci) ++ xw 5 aG (gB aG ci) ++ xw 7 aT (tB aT ci) ++ xw 18 aZ (sB aZ ci 0) = xw 33 (c33 h0 aK aG aT aZ) (f33 ci e aK aG aT aZ) := by
  have e1 : [(h0, e)] ++ xw 2 aK (kB aK ci) = xw 3 (c33 h0 aK aG aT aZ) (f33 ci e aK aG aT aZ) := by
    rw [xw_one]
    refine xw_app (fun i hi => ?_) (fun i hi => ?_)
    · obtain rfl : i = 0 := by omega
      exact ⟨rfl, rfl⟩
    · refine ⟨?_, ?_⟩
      · unfold c33
        rw [if_neg (by omega), if_pos (by omega), show 1 + i - 1 = i by omega]
      · unfold f33
        rw [if_neg (by omega), if_pos (by omega), show 1 + i - 1 = i by omega]
  have e2 : xw 3 (c33 h0 aK aG aT aZ) (f33 ci e aK aG aT aZ) ++ xw 5 aG (gB aG ci) = xw 8 (c33 h0 aK aG aT aZ) (f33 ci e aK aG aT aZ) := by
    refine xw_app (fun i hi => ⟨rfl, rfl⟩) (fun i hi => ?_)
    refine ⟨?_, ?_⟩
    · unfold c33
      rw [if_neg (by omega), if_neg (by omega), if_pos (by omega), show 3 + i - 3 = i by omega]
    · unfold f33
      rw [if_neg (by omega), if_neg (by omega), if_pos (by omega), show 3 + i - 3 = i by omega]
  have e3 : xw 8 (c33 h0 aK aG aT aZ) (f33 ci e aK aG aT aZ) ++ xw 7 aT (tB aT ci) = xw 15 (c33 h0 aK aG aT aZ) (f33 ci e aK aG aT aZ) := by
    refine xw_app (fun i hi => ⟨rfl, rfl⟩) (fun i hi => ?_)
    refine ⟨?_, ?_⟩
    · unfold c33
      rw [if_neg (by omega), if_neg (by omega), if_neg (by omega), if_pos (by omega), show 8 + i - 8 = i by omega]
    · unfold f33
      rw [if_neg (by omega), if_neg (by omega), if_neg (by omega), if_pos (by omega), show 8 + i - 8 = i by omega]
  have e4 : xw 15 (c33 h0 aK aG aT aZ) (f33 ci e aK aG aT aZ) ++ xw 18 aZ (sB aZ ci 0) = xw 33 (c33 h0 aK aG aT aZ) (f33 ci e aK aG aT aZ) := by
    refine xw_app (fun i hi => ⟨rfl, rfl⟩) (fun i hi => ?_)
    refine ⟨?_, ?_⟩
    · unfold c33
      rw [if_neg (by omega), if_neg (by omega), if_neg (by omega), if_neg (by omega), show 15 + i - 15 = i by omega]
    · unfold f33
      rw [if_neg (by omega), if_neg (by omega), if_neg (by omega), if_neg (by omega), show 15 + i - 15 = i by omega]
  rw [e1, e2, e3, e4]
theorem x_new {D : va_G} {A : Nat → Prop} {ci : Nat → ClassId} {h0 sz : Nat} {aK aG aT aZ : Nat → Nat} {H : Heap} (hP : va_P D vwCl (xw 33 (c33 h0 aK aG aT aZ) (f33 ci (.inr (5, [.ref (aK 0), .ref (aG 0), .ref (aT 0), .ref (aZ 0)])) aK aG aT aZ)) H) (hD : va_D A (xw 33 (c33 h0 aK aG aT aZ) (f33 ci (.inr (5, [.ref (aK 0), .ref (aG 0), .ref (aT 0), .ref (aZ 0)])) aK aG aT aZ))) (hA2 : ∀ q : Nat, A q → q = h0 ∨ sz ≤ q) : ∃ ad : Nat → Nat, blkD 33 ad h0 sz ∧ va_P D vwCl (xw 33 ad (xc ad ci st0 ln0 sv0 kv0 0)) H := by
  have hbk := blk_of_D hD hA2 rfl
  have hG : ∀ k, k < 5 → c33 h0 aK aG aT aZ (3 + k) = aG k := fun k hk => by
    unfold c33
    rw [if_neg (by omega), if_neg (by omega), if_pos (by omega), show 3 + k - 3 = k by omega]
  have hT : ∀ k, k < 7 → c33 h0 aK aG aT aZ (8 + k) = aT k := fun k hk => by
    unfold c33
    rw [if_neg (by omega), if_neg (by omega), if_neg (by omega), if_pos (by omega), show 8 + k - 8 = k by omega]
  have hZ : ∀ k, k < 18 → c33 h0 aK aG aT aZ (15 + k) = aZ k := fun k hk => by
    unfold c33
    rw [if_neg (by omega), if_neg (by omega), if_neg (by omega), if_neg (by omega), show 15 + k - 15 = k by omega]
  have h1 : c33 h0 aK aG aT aZ 1 = aK 0 := rfl
  have h2 : c33 h0 aK aG aT aZ 2 = aK 1 := rfl
  have atk : ∀ k, k < 33 → va_at D vwCl (c33 h0 aK aG aT aZ k, f33 ci (.inr (5, [.ref (aK 0), .ref (aG 0), .ref (aT 0), .ref (aZ 0)])) aK aG aT aZ k) H := fun k hk => hP _ _ (xw_at hk)
  refine ⟨c33 h0 aK aG aT aZ, hbk, fun k x hk => ?_⟩
  obtain ⟨hk1, rfl⟩ := xw_of hk
  have at9 := atk k hk1
  generalize c33 h0 aK aG aT aZ = ad at *
  rcases (show k = 0 ∨ k = 1 ∨ k = 2 ∨ k = 3 ∨ (4 ≤ k ∧ k < 8) ∨ k = 8 ∨ (9 ≤ k ∧ k < 13) ∨ k = 13 ∨ k = 14 ∨ 15 ≤ k by omega) with rfl | rfl | rfl | rfl | z | rfl | z | rfl | rfl | z
  · have e : xc ad ci st0 ln0 sv0 kv0 0 0 = (.inr (5, [.ref (aK 0), .ref (aG 0), .ref (aT 0), .ref (aZ 0)])) := by
      show (Sum.inr (5, [Value.ref (ad 1), .ref (ad (3 + 0)), .ref (ad (8 + 0)), .ref (ad (15 + 0))]) : va_E) = _
      rw [h1, hG 0 (by omega), hT 0 (by omega), hZ 0 (by omega)]
    rw [e]; exact at9
  · have e : xc ad ci st0 ln0 sv0 kv0 0 1 = kB aK ci 0 := by
      show (Sum.inr (1, [Value.ref (ad 2), .int 0, .int 0]) : va_E) = _
      rw [h2]
      rfl
    rw [e]; exact at9
  · refine at_q (g := fun _ => none) (fun i hi => ?_) at9
    exact (xrg_n (kv := kv0) (show ¬ (7 : Nat) < 7 by omega)).symm
  · have e : xc ad ci st0 ln0 sv0 kv0 0 3 = gB aG ci 0 := by
      show (Sum.inr (0, [Value.ref (ad (3 + 1))]) : va_E) = _
      rw [hG 1 (by omega)]
      rfl
    rw [e]; exact at9
  · obtain ⟨o, rfl⟩ : ∃ o, k = 4 + 5 * 0 + o := ⟨k - 4, by omega⟩
    have e : xc ad ci st0 ln0 sv0 kv0 0 (4 + 5 * 0 + o) = lB aG ci 1 o := by
      rw [xc_ln o (by omega) (by omega)]
      exact at_l (fun o ho => by rw [show 4 + 5 * 0 + o = 3 + (1 + o) by omega, hG _ (by omega)])
    rw [e]
    have e2 : f33 ci (.inr (5, [.ref (aK 0), .ref (aG 0), .ref (aT 0), .ref (aZ 0)])) aK aG aT aZ (4 + 5 * 0 + o) = lB aG ci 1 o := by
      unfold f33
      rw [if_neg (by omega), if_neg (by omega), if_pos (by omega), show 4 + 5 * 0 + o - 3 = 1 + o by omega]
      unfold gB
      rw [if_neg (by omega), show 1 + o - 1 = o by omega]
    rw [e2] at at9
    exact at9
  · have e : xc ad ci st0 ln0 sv0 kv0 0 8 = tB aT ci 0 := by
      show (Sum.inr (3, [Value.ref (ad (8 + 1)), .ref (ad (8 + 5)), .ref (ad (8 + 6)), .int 0]) : va_E) = _
      rw [hT 1 (by omega), hT 5 (by omega), hT 6 (by omega)]
      rfl
    rw [e]; exact at9
  · obtain ⟨o, rfl⟩ : ∃ o, k = 4 + 5 * 1 + o := ⟨k - 9, by omega⟩
    have e : xc ad ci st0 ln0 sv0 kv0 0 (4 + 5 * 1 + o) = lB aT ci 1 o := by
      rw [xc_ln o (by omega) (by omega)]
      exact at_l (fun o ho => by rw [show 4 + 5 * 1 + o = 8 + (1 + o) by omega, hT _ (by omega)])
    rw [e]
    have e2 : f33 ci (.inr (5, [.ref (aK 0), .ref (aG 0), .ref (aT 0), .ref (aZ 0)])) aK aG aT aZ (4 + 5 * 1 + o) = lB aT ci 1 o := by
      unfold f33
      rw [if_neg (by omega), if_neg (by omega), if_neg (by omega), if_pos (by omega), show 4 + 5 * 1 + o - 8 = 1 + o by omega]
      unfold tB
      rw [if_neg (by omega), if_pos (by omega), show 1 + o - 1 = o by omega]
    rw [e2] at at9
    exact at9
  · exact at9
  · exact at9
  · obtain ⟨o, ho, rfl⟩ : ∃ o, o < 18 ∧ k = 15 + 18 * 0 + o := ⟨k - 15, by omega, by omega⟩
    rw [xc_st o ho]
    refine at_s (b := aZ) (p := 0) ho (fun o ho => ?_) ?_
    · rw [show 15 + 18 * 0 + o = 15 + o by omega, hZ _ ho, Nat.zero_add]
    · have e2 : f33 ci (.inr (5, [.ref (aK 0), .ref (aG 0), .ref (aT 0), .ref (aZ 0)])) aK aG aT aZ (15 + 18 * 0 + o) = sB aZ ci 0 o := by
        unfold f33
        rw [if_neg (by omega), if_neg (by omega), if_neg (by omega), if_neg (by omega), show 15 + 18 * 0 + o - 15 = o by omega]
      rw [e2, show 15 + 18 * 0 + o = 15 + o by omega, hZ _ ho] at at9
      rw [Nat.zero_add]
      exact at9
set_option maxHeartbeats 4000000 in
set_option maxRecDepth 100000 in
theorem nX6_init (l : Launch) (dC : Nat → ClassId) (dI : Nat → Nat → Nat) (ci : Nat → ClassId) (h0 sz : Nat) : Met l yX6_init wsX6_init ({ frames := 3, cells := 32, slots := 4945, locals := 53 }) (va_Pc [.ref h0] (cP (dC, dI) ci h0 eX0 sz)) (va_Qv (fun a : Nat → Nat => blkD 33 a h0 sz) (fun a t => va_P (dC, dI) vwCl (xw 33 a (xc a ci st0 ln0 sv0 kv0 0)) t.heap) (va_A [(h0, eX0)] sz)) 32 4945 (va_A [(h0, eX0)] sz) := by
  refine Met.ofW (cc := cX6_init) (maxL := 1) (ret := none) (by decide) rfl ?_
  intro p e s m args below meth c s₁ B hml hv
  obtain ⟨rfl, hsz, hP, hK, hN⟩ := hv
  have hx := B.exec
  have hb := B.bytes
  have hr := B.returns
  have hts := atoms_spec (ws := wsX6_init) B.pre
  have hown : s.vm.findClass RX6 = some m.cls := findClass_of_methodNamed B.named
  have hlocks := B.notSynchronized
  have hin : meth.name = "<init>" := (name_of_methodNamed B.named B.method).1
  subst hsz
  have hD : va_D (va_A [(h0, eX0)] s.heap.size) [(h0, eX0)] := one_D A_self
  have hA : ∀ q : Nat, s.heap.size ≤ q → va_A [(h0, eX0)] s.heap.size q := A_new
  have hA2 : ∀ q : Nat, va_A [(h0, eX0)] s.heap.size q → q = h0 ∨ s.heap.size ≤ q := fun q hq => A_of hq
  generalize hAe : va_A [(h0, eX0)] s.heap.size = A at hD hA hA2 ⊢
  have hS : va_S A s.heap s.heap [] := va_S.rf
  have hl := lv_entry ([.ref h0]) (n := 1) (Nat.le_of_ble_eq_true rfl)
  rw [lg_entry_eq]
  generalize (lg_sl ([.ref h0]) ++ List.replicate (1 - (lg_sl ([.ref h0])).length) Slot.unset).toArray = ls at hl ⊢
  have hl : lv_has ls 1 [(0, .ref h0)] := hl
  refine lv_aload_n hx hb dX6_init_0 rfl (lv_at hl 0 rfl) ?_
  refine W.objInit hx hb hown (hts (.methodLink RX6 1 objectInit) (by decide +kernel)) (hts (.instanceMethod objectInit) (by decide +kernel)) (hts (.code objectInit ⟨#[0xb1]⟩ 1 none) (by decide +kernel)) rfl (by rw [hml]; exact hl.1) rfl dX6_init_1 (Nat.le_of_ble_eq_true rfl) (Nat.le_of_ble_eq_true rfl) ?_
  refine W.eq (g2 := F0 m 4 ls []) rfl ?_
  refine lv_aload_n hx hb dX6_init_4 rfl (lv_at hl 0 rfl) ?_
  refine va_new (ci := 1) (fs := [.null, .int 0, .int 0]) (C := RX1) (T := TX1) (N := 3) hx hb hts (by decide +kernel) tyX1 tyX1_ok hown (hts (.classLink RX6 7 RX1) (by decide +kernel)) (hts (.instantiable RX1 3) (by decide +kernel)) (hts (.initialized RX1) (by decide +kernel)) hK hP hD hS hA rfl (fun j hj => by rcases (show j = 0 ∨ j = 1 ∨ j = 2 by omega) with rfl | rfl | rfl <;> rfl) (show 0 + 1 ≤ 32 by omega) (show 0 + 3 ≤ 4945 by omega) dX6_init_5 (fun qk H hP hD hS => ?_)
  refine lv_dup hx hb dX6_init_8 rfl ?_
  have hF := A_sub hD hS hA
  have hs0 := hS.1
  refine va_callv (va_runIN (As := []) (rest := [.ref qk, .ref h0]) ⟨hx, hb, hml, hown, hts⟩ (nX1_init l dC dI ci qk H.size) ⟨va_cnB 0 hts gX6_init_X1_init_n9 rfl rfl rfl hN.2.2.2.2.2.2.2.2 (hts (.initialized RX1) (by decide +kernel)) (by decide +kernel) ⟨Nat.le_of_ble_eq_true rfl, Nat.le_of_ble_eq_true rfl⟩, rfl, hts (.instanceMethod yX1_init) (by decide +kernel)⟩ ⟨cP_blind, cP_pre (last_P hP) hK hN⟩ rfl rfl hl.1 rfl (lv_room (Nat.le_of_ble_eq_true rfl)) dX6_init_9 ⟨(show 0 + 1 + 1 ≤ 32 by omega), (show 0 + 3 + 6 ≤ 4945 by omega)⟩) hS (fun x _ hx => hF x hx) hF (fun aK t H1 locs ht hvm hwaK hB hz1 hk1 hS => ?_)
  obtain ⟨hP, hD⟩ := blk_join hP hD hk1 (x_th ht hB) hwaK (fun x hx => hA x (Nat.le_trans hs0 hx))
  refine va_putF (D := (dC, dI)) (ci := 5) (v := .ref qk) (ty := .object "DueWheels$Kept") (C := RX6) (T := TX6) (N := 4) hx hb hts (by decide +kernel) tyX6 tyX6_ok nmX6 hown hK hP hD hS 0 rfl rfl 0 (by decide) (hts (.fieldLink RX6 10 "DueWheels" "kept" "LDueWheels$Kept;") (by decide +kernel)) (fun _ h9 => h9) rfl hin rfl (by decide +kernel) rfl rfl (Nat.le_of_ble_eq_true rfl) dX6_init_12 (fun H locs hP hD hS => ?_)
  have hP : va_P (dC, dI) vwCl ([(h0, .inr (5, [.ref qk, .null, .null, .null]))] ++ xw 2 aK (kB aK ci)) H := hP
  have hD : va_D A ([(h0, .inr (5, [.ref qk, .null, .null, .null]))] ++ xw 2 aK (kB aK ci)) := hD
  refine lv_aload_n hx hb dX6_init_15 rfl (lv_at hl 0 rfl) ?_
  refine va_new (ci := 0) (fs := [.null]) (C := RX0) (T := TX0) (N := 1) hx hb hts (by decide +kernel) tyX0 tyX0_ok hown (hts (.classLink RX6 16 RX0) (by decide +kernel)) (hts (.instantiable RX0 1) (by decide +kernel)) (hts (.initialized RX0) (by decide +kernel)) hK hP hD hS hA rfl (fun j hj => by rcases (show j = 0 by omega) with rfl <;> rfl) (show 0 + 1 + 1 + 1 ≤ 32 by omega) (show 0 + 3 + 6 + 1 ≤ 4945 by omega) dX6_init_16 (fun qg H hP hD hS => ?_)
  refine lv_dup hx hb dX6_init_19 rfl ?_
  have hF := A_sub hD hS hA
  have hs0 := hS.1
  refine va_callv (va_runIN (As := []) (rest := [.ref qg, .ref h0]) ⟨hx, hb, hml, hown, hts⟩ (nX0_init l dC dI ci qg H.size) ⟨va_cnB 0 hts gX6_init_X0_init_n18 rfl rfl rfl hN.2.2.2.1 (hts (.initialized RX0) (by decide +kernel)) (by decide +kernel) ⟨Nat.le_of_ble_eq_true rfl, Nat.le_of_ble_eq_true rfl⟩, rfl, hts (.instanceMethod yX0_init) (by decide +kernel)⟩ ⟨cP_blind, cP_pre (last_P hP) hK hN⟩ rfl rfl hl.1 rfl (lv_room (Nat.le_of_ble_eq_true rfl)) dX6_init_20 ⟨(show 0 + 1 + 1 + 1 + 4 ≤ 32 by omega), (show 0 + 3 + 6 + 1 + 604 ≤ 4945 by omega)⟩) hS (fun x _ hx => hF x hx) hF (fun aG t H1 locs ht hvm hwaG hB hz1 hk1 hS => ?_)
  obtain ⟨hP, hD⟩ := blk_join hP hD hk1 (x_th ht hB) hwaG (fun x hx => hA x (Nat.le_trans hs0 hx))
  refine va_putF (D := (dC, dI)) (ci := 5) (v := .ref qg) (ty := .object "DueWheels$Going") (C := RX6) (T := TX6) (N := 4) hx hb hts (by decide +kernel) tyX6 tyX6_ok nmX6 hown hK hP hD hS 0 rfl rfl 1 (by decide) (hts (.fieldLink RX6 19 "DueWheels" "going" "LDueWheels$Going;") (by decide +kernel)) (fun _ h9 => h9) rfl hin rfl (by decide +kernel) rfl rfl (Nat.le_of_ble_eq_true rfl) dX6_init_23 (fun H locs hP hD hS => ?_)
  have hP : va_P (dC, dI) vwCl ([(h0, .inr (5, [.ref qk, .ref qg, .null, .null]))] ++ xw 2 aK (kB aK ci) ++ xw 5 aG (gB aG ci)) H := hP
  have hD : va_D A ([(h0, .inr (5, [.ref qk, .ref qg, .null, .null]))] ++ xw 2 aK (kB aK ci) ++ xw 5 aG (gB aG ci)) := hD
  refine lv_aload_n hx hb dX6_init_26 rfl (lv_at hl 0 rfl) ?_
  refine va_new (ci := 3) (fs := [.null, .null, .null, .int 0]) (C := RX3) (T := TX3) (N := 4) hx hb hts (by decide +kernel) tyX3 tyX3_ok hown (hts (.classLink RX6 23 RX3) (by decide +kernel)) (hts (.instantiable RX3 4) (by decide +kernel)) (hts (.initialized RX3) (by decide +kernel)) hK hP hD hS hA rfl (fun j hj => by rcases (show j = 0 ∨ j = 1 ∨ j = 2 ∨ j = 3 by omega) with rfl | rfl | rfl | rfl <;> rfl) (show 0 + 1 + 1 + 1 + 4 + 1 ≤ 32 by omega) (show 0 + 3 + 6 + 1 + 604 + 4 ≤ 4945 by omega) dX6_init_27 (fun qt H hP hD hS => ?_)
  refine lv_dup hx hb dX6_init_30 rfl ?_
  have hF := A_sub hD hS hA
  have hs0 := hS.1
  refine va_callv (va_runIN (As := []) (rest := [.ref qt, .ref h0]) ⟨hx, hb, hml, hown, hts⟩ (nX3_init l dC dI ci qt H.size) ⟨va_cnB 0 hts gX6_init_X3_init_n25 rfl rfl rfl hN.2.2.2.2.2.1 (hts (.initialized RX3) (by decide +kernel)) (by decide +kernel) ⟨Nat.le_of_ble_eq_true rfl, Nat.le_of_ble_eq_true rfl⟩, rfl, hts (.instanceMethod yX3_init) (by decide +kernel)⟩ ⟨cP_blind, cP_pre (last_P hP) hK hN⟩ rfl rfl hl.1 rfl (lv_room (Nat.le_of_ble_eq_true rfl)) dX6_init_31 ⟨(show 0 + 1 + 1 + 1 + 4 + 1 + 6 ≤ 32 by omega), (show 0 + 3 + 6 + 1 + 604 + 4 + 1004 ≤ 4945 by omega)⟩) hS (fun x _ hx => hF x hx) hF (fun aT t H1 locs ht hvm hwaT hB hz1 hk1 hS => ?_)
  obtain ⟨hP, hD⟩ := blk_join hP hD hk1 (x_th ht hB) hwaT (fun x hx => hA x (Nat.le_trans hs0 hx))
  refine va_putF (D := (dC, dI)) (ci := 5) (v := .ref qt) (ty := .object "DueWheels$Settling") (C := RX6) (T := TX6) (N := 4) hx hb hts (by decide +kernel) tyX6 tyX6_ok nmX6 hown hK hP hD hS 0 rfl rfl 2 (by decide) (hts (.fieldLink RX6 26 "DueWheels" "settling" "LDueWheels$Settling;") (by decide +kernel)) (fun _ h9 => h9) rfl hin rfl (by decide +kernel) rfl rfl (Nat.le_of_ble_eq_true rfl) dX6_init_34 (fun H locs hP hD hS => ?_)
  have hP : va_P (dC, dI) vwCl ([(h0, .inr (5, [.ref qk, .ref qg, .ref qt, .null]))] ++ xw 2 aK (kB aK ci) ++ xw 5 aG (gB aG ci) ++ xw 7 aT (tB aT ci)) H := hP
  have hD : va_D A ([(h0, .inr (5, [.ref qk, .ref qg, .ref qt, .null]))] ++ xw 2 aK (kB aK ci) ++ xw 5 aG (gB aG ci) ++ xw 7 aT (tB aT ci)) := hD
  refine lv_aload_n hx hb dX6_init_37 rfl (lv_at hl 0 rfl) ?_
  refine va_new (ci := 4) (fs := [.long 0, .long 0, .long 0, .long 0, .int 0, .int 0, .null, .null]) (C := RX4) (T := TX4) (N := 8) hx hb hts (by decide +kernel) tyX4 tyX4_ok hown (hts (.classLink RX6 30 RX4) (by decide +kernel)) (hts (.instantiable RX4 8) (by decide +kernel)) (hts (.initialized RX4) (by decide +kernel)) hK hP hD hS hA rfl (fun j hj => by rcases (show j = 0 ∨ j = 1 ∨ j = 2 ∨ j = 3 ∨ j = 4 ∨ j = 5 ∨ j = 6 ∨ j = 7 by omega) with rfl | rfl | rfl | rfl | rfl | rfl | rfl | rfl <;> rfl) (show 0 + 1 + 1 + 1 + 4 + 1 + 6 + 1 ≤ 32 by omega) (show 0 + 3 + 6 + 1 + 604 + 4 + 1004 + 8 ≤ 4945 by omega) dX6_init_38 (fun qs H hP hD hS => ?_)
  refine lv_dup hx hb dX6_init_41 rfl ?_
  have hF := A_sub hD hS hA
  have hs0 := hS.1
  refine va_callv (va_runIN (As := []) (rest := [.ref qs, .ref h0]) ⟨hx, hb, hml, hown, hts⟩ (nX4_init l dC dI ci qs H.size) ⟨va_cnB 0 hts gX6_init_X4_init_n32 rfl rfl rfl hN.2.2.2.2.2.2.2.1 (hts (.initialized RX4) (by decide +kernel)) (by decide +kernel) ⟨Nat.le_of_ble_eq_true rfl, Nat.le_of_ble_eq_true rfl⟩, rfl, hts (.instanceMethod yX4_init) (by decide +kernel)⟩ ⟨cP_blind, cP_pre (last_P hP) hK hN⟩ rfl rfl hl.1 rfl (lv_room (Nat.le_of_ble_eq_true rfl)) dX6_init_42 ⟨(show 0 + 1 + 1 + 1 + 4 + 1 + 6 + 1 + 17 ≤ 32 by omega), (show 0 + 3 + 6 + 1 + 604 + 4 + 1004 + 8 + 3315 ≤ 4945 by omega)⟩) hS (fun x _ hx => hF x hx) hF (fun aZ t H1 locs ht hvm hwaZ hB hz1 hk1 hS => ?_)
  obtain ⟨hP, hD⟩ := blk_join hP hD hk1 (x_th ht hB) hwaZ (fun x hx => hA x (Nat.le_trans hs0 hx))
  refine va_put (D := (dC, dI)) (ci := 5) (v := .ref qs) (ty := .object "DueWheels$State") (C := RX6) (T := TX6) (N := 4) hx hb hts (by decide +kernel) tyX6 tyX6_ok nmX6 hown hK hP hD hS 0 rfl rfl 3 (by decide) (hts (.fieldLink RX6 33 "DueWheels" "state" "LDueWheels$State;") (by decide +kernel)) (fun _ h9 => h9) rfl (by decide +kernel) rfl rfl (Nat.le_of_ble_eq_true rfl) dX6_init_45 (fun H locs hP hD hS => ?_)
  have hP : va_P (dC, dI) vwCl ([(h0, .inr (5, [.ref qk, .ref qg, .ref qt, .ref qs]))] ++ xw 2 aK (kB aK ci) ++ xw 5 aG (gB aG ci) ++ xw 7 aT (tB aT ci) ++ xw 18 aZ (sB aZ ci 0)) H := hP
  have hD : va_D A ([(h0, .inr (5, [.ref qk, .ref qg, .ref qt, .ref qs]))] ++ xw 2 aK (kB aK ci) ++ xw 5 aG (gB aG ci) ++ xw 7 aT (tB aT ci) ++ xw 18 aZ (sB aZ ci 0)) := hD
  have eX : ([.ref qk, .ref qg, .ref qt, .ref qs] : List Value) = [.ref (aK 0), .ref (aG 0), .ref (aT 0), .ref (aZ 0)] := by rw [hwaK.1, hwaG.1, hwaT.1, hwaZ.1]
  rw [eX, x33] at hP hD
  obtain ⟨ad, hbk, hP⟩ := x_new hP hD hA2
  refine W.cs (cells' := 32) (slots' := 4945) rfl rfl ?_
  exact W.vret hx hb hr (fun t ht hW => ⟨⟨ad, rfl, hbk, x_ht ht hP⟩, hS.F ht⟩) hS.2.2 dX6_init_48
