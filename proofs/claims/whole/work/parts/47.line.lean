/-! the constructor of Line -/
def lB (a : Nat → Nat) (ci : Nat → ClassId) (p o : Nat) : va_E :=
  if o = 0 then .inr (2, [.int 0, .ref (a (p + 1)), .ref (a (p + 2)), .ref (a (p + 3))])
  else if o = 1 then .inl (ci 0, 200, .inl (fun _ => 0))
  else .inl (ci 1, 200, .inr (.inl (fun _ => 0)))
abbrev eL0 : va_E := .inr (2, [.int 0, .null, .null, .null])
set_option maxHeartbeats 1000000 in
set_option maxRecDepth 100000 in
theorem nX2_init (l : Launch) (dC : Nat → ClassId) (dI : Nat → Nat → Nat) (ci : Nat → ClassId) (h0 sz : Nat) : Met l yX2_init wsX2_init ({ frames := 1, cells := 3, slots := 600, locals := 12 }) (va_Pc [.ref h0] (cP (dC, dI) ci h0 eL0 sz)) (va_Qv (fun a : Nat → Nat => blkD 4 a h0 sz) (fun a t => va_P (dC, dI) vwCl (xw 4 a (lB a ci 0)) t.heap) (va_A [(h0, eL0)] sz)) 3 600 (va_A [(h0, eL0)] sz) := by
  refine Met.ofW (cc := cX2_init) (maxL := 1) (ret := none) (by decide) rfl ?_
  intro p e s m args below meth c s₁ B hml hv
  obtain ⟨rfl, hsz, hP, hK, hN⟩ := hv
  have hx := B.exec
  have hb := B.bytes
  have hr := B.returns
  have hts := atoms_spec (ws := wsX2_init) B.pre
  have hown : s.vm.findClass RX2 = some m.cls := findClass_of_methodNamed B.named
  have hlocks := B.notSynchronized
  have hin : meth.name = "<init>" := (name_of_methodNamed B.named B.method).1
  subst hsz
  have hlt : h0 < s.heap.size := (hP 0 _ rfl).lt
  have hD : va_D (va_A [(h0, eL0)] s.heap.size) [(h0, eL0)] := one_D A_self
  have hA : ∀ q : Nat, s.heap.size ≤ q → va_A [(h0, eL0)] s.heap.size q := A_new
  have hA2 : ∀ q : Nat, va_A [(h0, eL0)] s.heap.size q → q = h0 ∨ s.heap.size ≤ q := fun q hq => A_of hq
  generalize hAe : va_A [(h0, eL0)] s.heap.size = A at hD hA hA2 ⊢
  have hS : va_S A s.heap s.heap [] := va_S.rf
  have hl := lv_entry ([.ref h0]) (n := 1) (Nat.le_of_ble_eq_true rfl)
  rw [lg_entry_eq]
  generalize (lg_sl ([.ref h0]) ++ List.replicate (1 - (lg_sl ([.ref h0])).length) Slot.unset).toArray = ls at hl ⊢
  have hl : lv_has ls 1 [(0, .ref h0)] := hl
  refine lv_aload_n hx hb dX2_init_0 rfl (lv_at hl 0 rfl) ?_
  refine W.objInit hx hb hown (hts (.methodLink RX2 3 objectInit) (by decide +kernel)) (hts (.instanceMethod objectInit) (by decide +kernel)) (hts _ (List.mem_cons_of_mem _ (List.mem_append_left _ (List.mem_of_getElem? (i := 2) rfl)))) rfl (by rw [hml]; exact hl.1) rfl dX2_init_1 (Nat.le_of_ble_eq_true rfl) (Nat.le_of_ble_eq_true rfl) ?_
  refine W.eq (g2 := F0 m 4 ls []) rfl ?_
  refine lv_aload_n hx hb dX2_init_4 rfl (lv_at hl 0 rfl) ?_
  refine lv_sipush (v := (200 : Int32)) hx hb dX2_init_5 (by decide) ?_
  refine va_newa (atype := .int) (ty := .int) (a0 := (200, .inl (fun _ => 0))) (N' := 200) hx hb (hts (.arrayClass .int) (by decide +kernel)) rfl hK hP hD hS hA (fun cA => rfl) (by decide) (by decide) (by decide +kernel) (show 0 + 1 ≤ 3 by omega) (show 0 + 200 ≤ 600 by omega) dX2_init_8 (fun q1 cA H hK1 hP hD hS => ?_)
  obtain rfl : cA = ci 0 := ci_eq hK1 5 0 rfl rfl
  have hP : va_P (dC, dI) vwCl [(h0, eL0), (q1, .inl (ci 0, 200, .inl (fun _ => 0)))] H := hP
  have hD : va_D A [(h0, eL0), (q1, .inl (ci 0, 200, .inl (fun _ => 0)))] := hD
  refine va_putF (D := (dC, dI)) (ci := 2) (v := .ref q1) (ty := .array .int) (C := RX2) (T := TX2) (N := 4) hx hb hts (by decide +kernel) tyX2 tyX2_ok nmX2 hown hK hP hD hS 0 rfl rfl 1 (by decide) (hts (.fieldLink RX2 9 "DueWheels$Line" "dues" "[I") (by decide +kernel)) (fun _ h9 => h9) rfl hin rfl (by decide +kernel) rfl rfl (Nat.le_of_ble_eq_true rfl) dX2_init_10 (fun H locs hP hD hS => ?_)
  have hP : va_P (dC, dI) vwCl [(h0, .inr (2, [.int 0, .ref q1, .null, .null])), (q1, .inl (ci 0, 200, .inl (fun _ => 0)))] H := hP
  have hD : va_D A [(h0, .inr (2, [.int 0, .ref q1, .null, .null])), (q1, .inl (ci 0, 200, .inl (fun _ => 0)))] := hD
  refine lv_aload_n hx hb dX2_init_13 rfl (lv_at hl 0 rfl) ?_
  refine lv_sipush (v := (200 : Int32)) hx hb dX2_init_14 (by decide) ?_
  refine va_newa (atype := .long) (ty := .long) (a0 := (200, .inr (.inl (fun _ => 0)))) (N' := 200) hx hb (hts (.arrayClass .long) (by decide +kernel)) rfl hK hP hD hS hA (fun cA => rfl) (by decide) (by decide) (by decide +kernel) (show 0 + 1 + 1 ≤ 3 by omega) (show 0 + 200 + 200 ≤ 600 by omega) dX2_init_17 (fun q2 cA H hK1 hP hD hS => ?_)
  obtain rfl : cA = ci 1 := ci_eq hK1 5 1 rfl rfl
  refine va_putF (D := (dC, dI)) (ci := 2) (v := .ref q2) (ty := .array .long) (C := RX2) (T := TX2) (N := 4) hx hb hts (by decide +kernel) tyX2 tyX2_ok nmX2 hown hK hP hD hS 0 rfl rfl 2 (by decide) (hts (.fieldLink RX2 15 "DueWheels$Line" "firstKeys" "[J") (by decide +kernel)) (fun _ h9 => h9) rfl hin rfl (by decide +kernel) rfl rfl (Nat.le_of_ble_eq_true rfl) dX2_init_19 (fun H locs hP hD hS => ?_)
  refine lv_aload_n hx hb dX2_init_22 rfl (lv_at hl 0 rfl) ?_
  refine lv_sipush (v := (200 : Int32)) hx hb dX2_init_23 (by decide) ?_
  refine va_newa (atype := .long) (ty := .long) (a0 := (200, .inr (.inl (fun _ => 0)))) (N' := 200) hx hb (hts (.arrayClass .long) (by decide +kernel)) rfl hK hP hD hS hA (fun cA => rfl) (by decide) (by decide) (by decide +kernel) (show 0 + 1 + 1 + 1 ≤ 3 by omega) (show 0 + 200 + 200 + 200 ≤ 600 by omega) dX2_init_26 (fun q3 cA H hK1 hP hD hS => ?_)
  obtain rfl : cA = ci 1 := ci_eq hK1 5 1 rfl rfl
  refine va_putF (D := (dC, dI)) (ci := 2) (v := .ref q3) (ty := .array .long) (C := RX2) (T := TX2) (N := 4) hx hb hts (by decide +kernel) tyX2 tyX2_ok nmX2 hown hK hP hD hS 0 rfl rfl 3 (by decide) (hts (.fieldLink RX2 19 "DueWheels$Line" "secondKeys" "[J") (by decide +kernel)) (fun _ h9 => h9) rfl hin rfl (by decide +kernel) rfl rfl (Nat.le_of_ble_eq_true rfl) dX2_init_28 (fun H locs hP hD hS => ?_)
  have hP : va_P (dC, dI) vwCl [(h0, .inr (2, [.int 0, .ref q1, .ref q2, .ref q3])), (q1, .inl (ci 0, 200, .inl (fun _ => 0))), (q2, .inl (ci 1, 200, .inr (.inl (fun _ => 0)))), (q3, .inl (ci 1, 200, .inr (.inl (fun _ => 0))))] H := hP
  have hD : va_D A [(h0, .inr (2, [.int 0, .ref q1, .ref q2, .ref q3])), (q1, .inl (ci 0, 200, .inl (fun _ => 0))), (q2, .inl (ci 1, 200, .inr (.inl (fun _ => 0)))), (q3, .inl (ci 1, 200, .inr (.inl (fun _ => 0))))] := hD
  obtain ⟨a, ha⟩ : ∃ a : Nat → Nat, a = fun k => if k = 0 then h0 else if k = 1 then q1 else if k = 2 then q2 else q3 := ⟨_, rfl⟩
  have a0 : a 0 = h0 := by rw [ha]; rfl
  have a1 : a 1 = q1 := by rw [ha]; rfl
  have a2 : a 2 = q2 := by rw [ha]; rfl
  have a3 : a 3 = q3 := by rw [ha]; rfl
  have eW : xw 4 a (lB a ci 0) = [(h0, .inr (2, [.int 0, .ref q1, .ref q2, .ref q3])), (q1, .inl (ci 0, 200, .inl (fun _ => 0))), (q2, .inl (ci 1, 200, .inr (.inl (fun _ => 0)))), (q3, .inl (ci 1, 200, .inr (.inl (fun _ => 0))))] := by
    show [(a 0, lB a ci 0 0), (a 1, lB a ci 0 1), (a 2, lB a ci 0 2), (a 3, lB a ci 0 3)] = _
    have e0 : lB a ci 0 0 = .inr (2, [.int 0, .ref (a 1), .ref (a 2), .ref (a 3)]) := rfl
    rw [e0, a0, a1, a2, a3]
    rfl
  rw [← eW] at hP hD
  have hbk : blkD 4 a h0 s.heap.size := by
    refine ⟨a0, fun i j hi hj e => ?_, fun i h1 h2 => ?_⟩
    · exact hD.1 i j _ _ (xw_at hi) (xw_at hj) e
    · have hq := hA2 _ (hD.2 i _ (xw_at h2))
      rcases hq with z | z
      · have := hD.1 i 0 _ _ (xw_at h2) (xw_at (by omega)) (z.trans a0.symm)
        omega
      · exact z
  refine W.cs (cells' := 3) (slots' := 600) rfl rfl ?_
  exact W.vret hx hb hr (fun t ht hW => ⟨⟨a, rfl, hbk, x_ht ht hP⟩, hS.F ht⟩) hS.2.2 dX2_init_31
