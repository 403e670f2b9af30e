abbrev rmX6_isTickAhead : Room := { frames := 0, cells := 0, slots := 0, locals := 0 }
theorem wX6_isTickAhead_k76 : Cond.constantLong RX6 76 (1125899906842624) ∈ wsX6_isTickAhead := by decide +kernel
theorem wX6_isTickAhead_c4 : ∀ w ∈ u_ws RX4 TX4 8, w ∈ wsX6_isTickAhead := by decide +kernel
theorem wX6_isTickAhead_f108 : Cond.fieldLink RX6 108 "DueWheels$State" "time" "J" ∈ wsX6_isTickAhead := by decide +kernel
theorem wX6_isTickAhead_c6 : ∀ w ∈ u_ws RX6 TX6 4, w ∈ wsX6_isTickAhead := by decide +kernel
theorem wX6_isTickAhead_f33 : Cond.fieldLink RX6 33 "DueWheels" "state" "LDueWheels$State;" ∈ wsX6_isTickAhead := by decide +kernel
def PX6_isTickAhead  (st : Nat → StV) (cu : Nat) (x1 : Int64) (post : Int32 → Prop) : Prop :=
  ((x1 ≤ (s_tm (st cu)) → post (0 : Int32)) ∧ (¬ x1 ≤ (s_tm (st cu)) → (((1125899906842624 : Int64) < x1 → post (0 : Int32)) ∧ (¬ (1125899906842624 : Int64) < x1 → post (1 : Int32)))))
set_option maxHeartbeats 4000000 in
set_option maxRecDepth 100000 in
theorem qX6_isTickAhead (l : Launch) (dC : Nat → ClassId) (dI : Nat → Nat → Nat) (ci : Nat → ClassId) (A : Nat → Prop) (a0 : Nat) (st : Nat → StV) (ln : Nat → LnV) (sv : SvV) (kv : KvV) (cu : Nat) (x1 : Int64) (post : Int32 → Prop) (h : PX6_isTickAhead st cu x1 post) : Met l yX6_isTickAhead wsX6_isTickAhead rmX6_isTickAhead (va_Pc [.ref a0, .long x1] (xPre (dC, dI) ci A (xB (dC, dI) ci A a0 st ln sv kv cu))) (va_Qi (fun r9 (u : Unit) => post r9 ) (fun u t => xB (dC, dI) ci A a0 st ln sv kv cu t.heap) A) 0 0 A := by
  refine Met.ofW (cc := cX6_isTickAhead) (maxL := 3) (ret := (some .boolean)) (by decide) rfl ?_
  intro p e s m args below meth c s₁ B hml hv
  obtain ⟨eargs, hP, hK, hN, hA⟩ := hv
  obtain ⟨ad, ns, hns, h0, hAD, hcu, hP⟩ := hP
  subst h0
  have C0 : xC p s m args meth c cX6_isTickAhead 3 (some .boolean) RX6 wsX6_isTickAhead (dC, dI) (xT ci) := ⟨B.exec, B.bytes, hml, B.returns, B.notSynchronized, findClass_of_methodNamed B.named, atoms_spec (ws := wsX6_isTickAhead) B.pre, hK⟩
  obtain ⟨hx, hb, -, hr, hlocks, hown, hts, -⟩ := id C0
  have hS : va_S A s.heap s.heap [] := va_S.rf
  have hl := lv_entry ([.ref (ad 0), .long x1]) (n := 3) (Nat.le_of_ble_eq_true rfl)
  have ef : entryFrame m args 3 = entryFrame m ([.ref (ad 0), .long x1] : List Value).toArray 3 := by rw [eargs]
  rw [ef, lg_entry_eq]
  generalize (lg_sl ([.ref (ad 0), .long x1]) ++ List.replicate (3 - (lg_sl ([.ref (ad 0), .long x1])).length) Slot.unset).toArray = ls at hl ⊢
  have hl : lv_has ls 3 [(0, .ref (ad 0)), (1, .long x1)] := hl
  have hP : va_P (dC, dI) vwCl (xw (xn ns) ad (xc ad ci st ln sv kv cu)) s.heap := hP
  unfold PX6_isTickAhead at h
  refine lv_lload_n hx hb dX6_isTickAhead_0 rfl (lv_at hl 1 rfl) ?_
  refine lv_aload_n hx hb dX6_isTickAhead_1 rfl (lv_at hl 0 rfl) ?_
  refine xr_get (D := (dC, dI)) (C := RX6) (T := TX6) (N := 4) (v := .ref (ad (xaS cu))) hx hb hts wX6_isTickAhead_c6 hown hK hP 0 (xq_c (by decide)) xe_X rfl 3 (by decide) wX6_isTickAhead_f33 rfl rfl dX6_isTickAhead_2 ?_
  refine xr_get (D := (dC, dI)) (C := RX4) (T := TX4) (N := 8) (v := .long (s_tm (st cu))) hx hb hts wX6_isTickAhead_c4 hown hK hP (xaS cu) (xq_S hcu) (xe_S rfl) rfl 0 (by decide) wX6_isTickAhead_f108 rfl rfl dX6_isTickAhead_5 ?_
  refine xr_if_lcmp_le (tgt := 24) hx hb dX6_isTickAhead_8 dX6_isTickAhead_9 (by decide) (fun c_1 => ?_) (fun c_1 => ?_)
  · have h := h.1 c_1
    refine lv_iconst (v := (0 : Int32)) hx hb dX6_isTickAhead_24 (by decide) ?_
    exact W.zret (v := (0 : Int32)) (ty := .boolean) hx hb hr (by decide) (fun t ht hW => ⟨⟨(0 : Int32), (), rfl, h, ⟨ad, ns, hns, rfl, hAD, hcu, x_ht ht hP⟩⟩, hS.F ht⟩) hS.2.2 dX6_isTickAhead_25
  · have h := h.2 c_1
    refine lv_lload_n hx hb dX6_isTickAhead_12 rfl (lv_at hl 1 rfl) ?_
    refine lv_ldc2 (v := (1125899906842624 : Int64)) hx hb hown (hts _ wX6_isTickAhead_k76) dX6_isTickAhead_13 ?_
    refine xr_if_lcmp_gt (tgt := 24) hx hb dX6_isTickAhead_16 dX6_isTickAhead_17 (by decide) (fun c_2 => ?_) (fun c_2 => ?_)
    · have h := h.1 c_2
      refine lv_iconst (v := (0 : Int32)) hx hb dX6_isTickAhead_24 (by decide) ?_
      exact W.zret (v := (0 : Int32)) (ty := .boolean) hx hb hr (by decide) (fun t ht hW => ⟨⟨(0 : Int32), (), rfl, h, ⟨ad, ns, hns, rfl, hAD, hcu, x_ht ht hP⟩⟩, hS.F ht⟩) hS.2.2 dX6_isTickAhead_25
    · have h := h.2 c_2
      refine lv_iconst (v := (1 : Int32)) hx hb dX6_isTickAhead_20 (by decide) ?_
      refine lv_goto (tgt := 25) hx hb dX6_isTickAhead_21 (by decide) ?_
      exact W.zret (v := (1 : Int32)) (ty := .boolean) hx hb hr (by decide) (fun t ht hW => ⟨⟨(1 : Int32), (), rfl, h, ⟨ad, ns, hns, rfl, hAD, hcu, x_ht ht hP⟩⟩, hS.F ht⟩) hS.2.2 dX6_isTickAhead_25
abbrev rmX6_once : Room := { frames := 3, cells := 18, slots := 3323, locals := 83 }
theorem wX6_once_c6 : ∀ w ∈ u_ws RX6 TX6 4, w ∈ wsX6_once := by decide +kernel
theorem wX6_once_f33 : Cond.fieldLink RX6 33 "DueWheels" "state" "LDueWheels$State;" ∈ wsX6_once := by decide +kernel
theorem wX6_once_f10 : Cond.fieldLink RX6 10 "DueWheels" "kept" "LDueWheels$Kept;" ∈ wsX6_once := by decide +kernel
theorem wX6_once_k47 : Cond.constantLong RX6 47 (-2000000003) ∈ wsX6_once := by decide +kernel
theorem wX6_once_k41 : Cond.constantLong RX6 41 (-2000000001) ∈ wsX6_once := by decide +kernel
def PX6_once  (st : Nat → StV) (kv : KvV) (cu : Nat) (x1 : Int64) (x3 : Int32) (post : Int64 → (Nat → StV) → KvV → Prop) : Prop :=
  (PX6_isTickAhead st cu x1 (fun (r_1 : Int32) => ((r_1 = 0 → post (-2000000001 : Int64) st kv) ∧ (¬ r_1 = 0 → (PX4_isFull (st cu) (fun (r_3 : Int32) => ((r_3 = 0 → (PX1_keep cu st kv (fun (st_5 : Nat → StV) (kv_6 : KvV) => (PX4_open (st_5 cu) (0 : Int32) x3 (fun (r_7 : Int32) (v_8 : StV) => ∀ st_9 : Nat → StV, st_9 = va_up st_5 cu v_8 → (PX4_setTick (st_9 cu) r_7 x1 (fun (v_10 : StV) => ∀ st_11 : Nat → StV, st_11 = va_up st_9 cu v_10 → post (r_7.toInt64) st_11 kv_6))))))) ∧ (¬ r_3 = 0 → post (-2000000003 : Int64) st kv))))))))
set_option maxHeartbeats 4000000 in
set_option maxRecDepth 100000 in
theorem qX6_once (l : Launch) (dC : Nat → ClassId) (dI : Nat → Nat → Nat) (ci : Nat → ClassId) (A : Nat → Prop) (a0 : Nat) (st : Nat → StV) (ln : Nat → LnV) (sv : SvV) (kv : KvV) (cu : Nat) (x1 : Int64) (x3 : Int32) (post : Int64 → (Nat → StV) → KvV → Prop) (h : PX6_once st kv cu x1 x3 post) : Met l yX6_once wsX6_once rmX6_once (va_Pc [.ref a0, .long x1, .int x3] (xPre (dC, dI) ci A (xB (dC, dI) ci A a0 st ln sv kv cu))) (va_Ql (fun r9 (u : (Nat → StV) × KvV) => post r9 (u.1) (u.2)) (fun u t => xB (dC, dI) ci A a0 (u.1) ln sv (u.2) cu t.heap) A) 18 3323 A := by
  refine Met.ofW (cc := cX6_once) (maxL := 5) (ret := (some .long)) (by decide) rfl ?_
  intro p e s m args below meth c s₁ B hml hv
  obtain ⟨eargs, hP, hK, hN, hA⟩ := hv
  obtain ⟨ad, ns, hns, h0, hAD, hcu, hP⟩ := hP
  subst h0
  have C0 : xC p s m args meth c cX6_once 5 (some .long) RX6 wsX6_once (dC, dI) (xT ci) := ⟨B.exec, B.bytes, hml, B.returns, B.notSynchronized, findClass_of_methodNamed B.named, atoms_spec (ws := wsX6_once) B.pre, hK⟩
  obtain ⟨hx, hb, -, hr, hlocks, hown, hts, -⟩ := id C0
  have hS : va_S A s.heap s.heap [] := va_S.rf
  have hl := lv_entry ([.ref (ad 0), .long x1, .int x3]) (n := 5) (Nat.le_of_ble_eq_true rfl)
  have ef : entryFrame m args 5 = entryFrame m ([.ref (ad 0), .long x1, .int x3] : List Value).toArray 5 := by rw [eargs]
  rw [ef, lg_entry_eq]
  generalize (lg_sl ([.ref (ad 0), .long x1, .int x3]) ++ List.replicate (5 - (lg_sl ([.ref (ad 0), .long x1, .int x3])).length) Slot.unset).toArray = ls at hl ⊢
  have hl : lv_has ls 5 [(0, .ref (ad 0)), (1, .long x1), (3, .int x3)] := hl
  have hP : va_P (dC, dI) vwCl (xw (xn ns) ad (xc ad ci st ln sv kv cu)) s.heap := hP
  unfold PX6_once at h
  refine lv_aload_n hx hb dX6_once_0 rfl (lv_at hl 0 rfl) ?_
  refine lv_lload_n hx hb dX6_once_1 rfl (lv_at hl 1 rfl) ?_
  refine va_calli (va_runV (As := [.long x1]) (rest := []) ⟨hx, hb, C0.2.2.1, hown, hts⟩ (qX6_isTickAhead l dC dI ci A (ad 0) st ln sv kv cu x1 _ h) (cwV 1 hts gX6_once_X6_isTickAhead rfl rfl rfl (by decide +kernel) ⟨Nat.le_of_ble_eq_true rfl, Nat.le_of_ble_eq_true rfl⟩) ⟨xk_blind, xr_recv (r := (RX6, TX6, 4)) hK hP 0 (xq_c (by decide)) xe_X rfl, xk_pre ⟨ad, ns, hns, rfl, hAD, hcu, hP⟩ hK hN (fun q hq => hA q (Nat.le_trans hS.1 hq))⟩ rfl rfl hl.1 rfl (lv_room (Nat.le_of_ble_eq_true rfl)) dX6_once_2 ⟨Nat.le_of_ble_eq_true rfl, Nat.le_of_ble_eq_true rfl⟩) hS (fun _ _ h => h) (fun _ h => h) (fun r_1 _ t9 H locs ht hvm h hB _ _ hS => ?_)
  refine W.cs (cells' := 0) (slots' := 0) rfl rfl ?_
  obtain ⟨ad, ns, hns, h0, hAD, hcu, hP⟩ := xB_th ht hB
  rw [← h0] at hl ⊢
  have hns : k_ns kv = ns := hns
  have hP : va_P (dC, dI) vwCl (xw (xn ns) ad (xc ad ci st ln sv kv cu)) H := hP
  refine lv_if_ne (tgt := 12) hx hb dX6_once_5 (by decide) (fun c_2 => ?_) (fun c_2 => ?_)
  · have h := h.2 c_2
    refine lv_aload_n hx hb dX6_once_12 rfl (lv_at hl 0 rfl) ?_
    refine xr_get (D := (dC, dI)) (C := RX6) (T := TX6) (N := 4) (v := .ref (ad (xaS cu))) hx hb hts wX6_once_c6 hown hK hP 0 (xq_c (by decide)) xe_X rfl 3 (by decide) wX6_once_f33 rfl rfl dX6_once_13 ?_
    have hP9 := x_e1 cu hP
    refine va_calli (va_runV (As := []) (rest := []) ⟨hx, hb, C0.2.2.1, hown, hts⟩ (qX4_isFull l dC dI ad ci A ns hAD st (st cu) ln sv kv cu cu hcu  _ h) (cwV 0 hts gX6_once_X4_isFull rfl rfl rfl (by decide +kernel) ⟨Nat.le_of_ble_eq_true rfl, Nat.le_of_ble_eq_true rfl⟩) ⟨xr_blind, xr_recv (r := (RX4, TX4, 8)) hK hP (xaS cu) (xq_S hcu) (xe_S rfl) rfl, xr_pre hP9 hK⟩ rfl rfl hl.1 rfl (lv_room (Nat.le_of_ble_eq_true rfl)) dX6_once_16 ⟨Nat.le_of_ble_eq_true rfl, Nat.le_of_ble_eq_true rfl⟩) hS (fun _ _ h => h) (fun _ h => h) (fun r_3 _ t9 H locs ht hvm h hB _ _ hS => ?_)
    refine W.cs (cells' := 0) (slots' := 0) rfl rfl ?_
    have hP := x_th ht hB
    have hP : va_P (dC, dI) vwCl (xw (xn ns) ad (xc ad ci st ln sv kv cu)) H := by simp only [x_eta] at hP; exact hP
    refine lv_if_eq (tgt := 26) hx hb dX6_once_19 (by decide) (fun c_4 => ?_) (fun c_4 => ?_)
    · have h := h.1 c_4
      refine lv_aload_n hx hb dX6_once_26 rfl (lv_at hl 0 rfl) ?_
      refine xr_get (D := (dC, dI)) (C := RX6) (T := TX6) (N := 4) (v := .ref (ad 1)) hx hb hts wX6_once_c6 hown hK hP 0 (xq_c (by decide)) xe_X rfl 0 (by decide) wX6_once_f10 rfl rfl dX6_once_27 ?_
      refine lv_aload_n hx hb dX6_once_30 rfl (lv_at hl 0 rfl) ?_
      refine xr_get (D := (dC, dI)) (C := RX6) (T := TX6) (N := 4) (v := .ref (ad (xaS cu))) hx hb hts wX6_once_c6 hown hK hP 0 (xq_c (by decide)) xe_X rfl 3 (by decide) wX6_once_f33 rfl rfl dX6_once_31 ?_
      refine va_callv (va_runV (As := [.ref (ad (xaS cu))]) (rest := []) ⟨hx, hb, C0.2.2.1, hown, hts⟩ (qX1_keep l dC dI ad ci A ns hAD st ln sv kv cu cu hcu hcu hns  _ h) (cwV 1 hts gX6_once_X1_keep rfl rfl rfl (by decide +kernel) ⟨Nat.le_of_ble_eq_true rfl, Nat.le_of_ble_eq_true rfl⟩) ⟨xk_blind, xr_recv (r := (RX1, TX1, 3)) hK hP 1 (xq_c (by decide)) xe_K rfl, xk_pre hP hK hN (fun q hq => hA q (Nat.le_trans hS.1 hq))⟩ rfl rfl hl.1 rfl (lv_room (Nat.le_of_ble_eq_true rfl)) dX6_once_34 ⟨Nat.le_of_ble_eq_true rfl, Nat.le_of_ble_eq_true rfl⟩) hS (fun _ _ h => h) (fun _ h => h) (fun u9 t9 H locs ht hvm h hB _ _ hS => ?_)
      refine W.cs (cells' := 18) (slots' := 3323) rfl rfl ?_
      obtain ⟨st_5, kv_6⟩ := u9
      obtain ⟨ad, ns, hns, h0, hAD, hcu, hP⟩ := xB_th ht hB
      rw [← h0] at hl ⊢
      have hns : k_ns kv_6 = ns := hns
      have hP : va_P (dC, dI) vwCl (xw (xn ns) ad (xc ad ci st_5 ln sv kv_6 cu)) H := hP
      refine lv_aload_n hx hb dX6_once_37 rfl (lv_at hl 0 rfl) ?_
      refine xr_get (D := (dC, dI)) (C := RX6) (T := TX6) (N := 4) (v := .ref (ad (xaS cu))) hx hb hts wX6_once_c6 hown hK hP 0 (xq_c (by decide)) xe_X rfl 3 (by decide) wX6_once_f33 rfl rfl dX6_once_38 ?_
      refine lv_iconst (v := (0 : Int32)) hx hb dX6_once_41 (by decide) ?_
      refine lv_iload_n hx hb dX6_once_42 rfl (lv_at hl 2 rfl) ?_
      have hP9 := x_e1 cu hP
      refine va_calli (va_runV (As := [.int (0 : Int32), .int x3]) (rest := []) ⟨hx, hb, C0.2.2.1, hown, hts⟩ (qX4_open l dC dI ad ci A ns hAD st_5 (st_5 cu) ln sv kv_6 cu cu hcu (0 : Int32) x3 _ h) (cwV 2 hts gX6_once_X4_open rfl rfl rfl (by decide +kernel) ⟨Nat.le_of_ble_eq_true rfl, Nat.le_of_ble_eq_true rfl⟩) ⟨xr_blind, xr_recv (r := (RX4, TX4, 8)) hK hP (xaS cu) (xq_S hcu) (xe_S rfl) rfl, xr_pre hP9 hK⟩ rfl rfl hl.1 rfl (lv_room (Nat.le_of_ble_eq_true rfl)) dX6_once_43 ⟨Nat.le_of_ble_eq_true rfl, Nat.le_of_ble_eq_true rfl⟩) hS (fun _ _ h => h) (fun _ h => h) (fun r_7 v_8 t9 H locs ht hvm h hB _ _ hS => ?_)
      refine W.cs (cells' := 18) (slots' := 3323) rfl rfl ?_
      have hP := x_th ht hB
      have hP : va_P (dC, dI) vwCl (xw (xn ns) ad (xc ad ci (va_up st_5 cu v_8) ln sv kv_6 cu)) H := by exact hP
      obtain ⟨st_9, est_9⟩ : ∃ z : Nat → StV, z = va_up st_5 cu v_8 := ⟨_, rfl⟩
      have h := h st_9 est_9
      rw [← est_9] at hP
      refine lv_istore (lv' := [(4, .int r_7), (0, .ref (ad 0)), (1, .long x1), (3, .int x3)]) hx hb dX6_once_46 hl (by decide) rfl (fun ls hl => ?_)
      refine lv_aload_n hx hb dX6_once_48 rfl (lv_at hl 1 rfl) ?_
      refine xr_get (D := (dC, dI)) (C := RX6) (T := TX6) (N := 4) (v := .ref (ad (xaS cu))) hx hb hts wX6_once_c6 hown hK hP 0 (xq_c (by decide)) xe_X rfl 3 (by decide) wX6_once_f33 rfl rfl dX6_once_49 ?_
      refine lv_iload hx hb dX6_once_52 (lv_at hl 0 rfl) ?_
      refine lv_lload_n hx hb dX6_once_54 rfl (lv_at hl 2 rfl) ?_
      have hP9 := x_e1 cu hP
      refine va_callv (va_runV (As := [.int r_7, .long x1]) (rest := []) ⟨hx, hb, C0.2.2.1, hown, hts⟩ (qX4_setTick l dC dI ad ci A ns hAD st_9 (st_9 cu) ln sv kv_6 cu cu hcu r_7 x1 _ h) (cwV 2 hts gX6_once_X4_setTick rfl rfl rfl (by decide +kernel) ⟨Nat.le_of_ble_eq_true rfl, Nat.le_of_ble_eq_true rfl⟩) ⟨xr_blind, xr_recv (r := (RX4, TX4, 8)) hK hP (xaS cu) (xq_S hcu) (xe_S rfl) rfl, xr_pre hP9 hK⟩ rfl rfl hl.1 rfl (lv_room (Nat.le_of_ble_eq_true rfl)) dX6_once_55 ⟨Nat.le_of_ble_eq_true rfl, Nat.le_of_ble_eq_true rfl⟩) hS (fun _ _ h => h) (fun _ h => h) (fun v_10 t9 H locs ht hvm h hB _ _ hS => ?_)
      refine W.cs (cells' := 18) (slots' := 3323) rfl rfl ?_
      have hP := x_th ht hB
      have hP : va_P (dC, dI) vwCl (xw (xn ns) ad (xc ad ci (va_up st_9 cu v_10) ln sv kv_6 cu)) H := by exact hP
      obtain ⟨st_11, est_11⟩ : ∃ z : Nat → StV, z = va_up st_9 cu v_10 := ⟨_, rfl⟩
      have h := h st_11 est_11
      rw [← est_11] at hP
      refine lv_iload hx hb dX6_once_58 (lv_at hl 0 rfl) ?_
      refine lv_i2l hx hb dX6_once_60 rfl ?_
      exact W.lret (v := (r_7.toInt64)) hx hb hr (fun t ht hW => ⟨⟨(r_7.toInt64), (st_11, kv_6), rfl, h, ⟨ad, ns, hns, rfl, hAD, hcu, x_ht ht hP⟩⟩, hS.F ht⟩) hS.2.2 dX6_once_61
    · have h := h.2 c_4
      refine lv_ldc2 (v := (-2000000003 : Int64)) hx hb hown (hts _ wX6_once_k47) dX6_once_22 ?_
      refine W.widen (k := 18) (n := 3323) (Nat.le_of_ble_eq_true rfl) (Nat.le_of_ble_eq_true rfl) ?_
      exact W.lret (v := (-2000000003 : Int64)) hx hb hr (fun t ht hW => ⟨⟨(-2000000003 : Int64), (st, kv), rfl, h, ⟨ad, ns, hns, rfl, hAD, hcu, x_ht ht hP⟩⟩, hS.F ht⟩) hS.2.2 dX6_once_25
  · have h := h.1 c_2
    refine lv_ldc2 (v := (-2000000001 : Int64)) hx hb hown (hts _ wX6_once_k41) dX6_once_8 ?_
    refine W.widen (k := 18) (n := 3323) (Nat.le_of_ble_eq_true rfl) (Nat.le_of_ble_eq_true rfl) ?_
    exact W.lret (v := (-2000000001 : Int64)) hx hb hr (fun t ht hW => ⟨⟨(-2000000001 : Int64), (st, kv), rfl, h, ⟨ad, ns, hns, rfl, hAD, hcu, x_ht ht hP⟩⟩, hS.F ht⟩) hS.2.2 dX6_once_11
abbrev rmX6_isSpan : Room := { frames := 0, cells := 0, slots := 0, locals := 0 }
theorem wX6_isSpan_k76 : Cond.constantLong RX6 76 (1125899906842624) ∈ wsX6_isSpan := by decide +kernel
def PX6_isSpan   (x0 : Int64) (post : Int32 → Prop) : Prop :=
  ((x0 < (1 : Int64) → post (0 : Int32)) ∧ (¬ x0 < (1 : Int64) → (((1125899906842624 : Int64) < x0 → post (0 : Int32)) ∧ (¬ (1125899906842624 : Int64) < x0 → post (1 : Int32)))))
set_option maxHeartbeats 4000000 in
set_option maxRecDepth 100000 in
theorem qX6_isSpan (l : Launch) (dC : Nat → ClassId) (dI : Nat → Nat → Nat) (nn : Nat) (ad : Nat → Nat) (ff : Nat → va_E) (tys : List (ClassId × FieldType)) (A : Nat → Prop)  (x0 : Int64) (post : Int32 → Prop) (h : PX6_isSpan x0 post) : Met l yX6_isSpan wsX6_isSpan rmX6_isSpan (va_Pc [.long x0] (fun U => va_P (dC, dI) vwCl (xw nn ad ff) U.heap ∧ va_K (dC, dI) vwCl tys U)) (va_Qi (fun r9 (u : Unit) => post r9 ) (fun u t => va_P (dC, dI) vwCl (xw nn ad ff) t.heap) A) 0 0 A := by
  refine Met.ofW (cc := cX6_isSpan) (maxL := 2) (ret := (some .boolean)) (by decide) rfl ?_
  intro p e s m args below meth c s₁ B hml hv
  obtain ⟨eargs, hP, hK⟩ := hv
  have C0 : xC p s m args meth c cX6_isSpan 2 (some .boolean) RX6 wsX6_isSpan (dC, dI) tys := ⟨B.exec, B.bytes, hml, B.returns, B.notSynchronized, findClass_of_methodNamed B.named, atoms_spec (ws := wsX6_isSpan) B.pre, hK⟩
  obtain ⟨hx, hb, -, hr, hlocks, hown, hts, -⟩ := id C0
  have hS : va_S A s.heap s.heap [] := va_S.rf
  have hl := lv_entry ([.long x0]) (n := 2) (Nat.le_of_ble_eq_true rfl)
  have ef : entryFrame m args 2 = entryFrame m ([.long x0] : List Value).toArray 2 := by rw [eargs]
  rw [ef, lg_entry_eq]
  generalize (lg_sl ([.long x0]) ++ List.replicate (2 - (lg_sl ([.long x0])).length) Slot.unset).toArray = ls at hl ⊢
  have hl : lv_has ls 2 [(0, .long x0)] := hl
  have hP : va_P (dC, dI) vwCl (xw nn ad ff) s.heap := hP
  unfold PX6_isSpan at h
  refine lv_lload_n hx hb dX6_isSpan_0 rfl (lv_at hl 0 rfl) ?_
  refine lv_lconst (v := (1 : Int64)) hx hb dX6_isSpan_1 (by decide) ?_
  refine xr_if_lcmp_lt (tgt := 18) hx hb dX6_isSpan_2 dX6_isSpan_3 (by decide) (fun c_1 => ?_) (fun c_1 => ?_)
  · have h := h.1 c_1
    refine lv_iconst (v := (0 : Int32)) hx hb dX6_isSpan_18 (by decide) ?_
    exact W.zret (v := (0 : Int32)) (ty := .boolean) hx hb hr (by decide) (fun t ht hW => ⟨⟨(0 : Int32), (), rfl, h, x_ht ht hP⟩, hS.F ht⟩) hS.2.2 dX6_isSpan_19
  · have h := h.2 c_1
    refine lv_lload_n hx hb dX6_isSpan_6 rfl (lv_at hl 0 rfl) ?_
    refine lv_ldc2 (v := (1125899906842624 : Int64)) hx hb hown (hts _ wX6_isSpan_k76) dX6_isSpan_7 ?_
    refine xr_if_lcmp_gt (tgt := 18) hx hb dX6_isSpan_10 dX6_isSpan_11 (by decide) (fun c_2 => ?_) (fun c_2 => ?_)
    · have h := h.1 c_2
      refine lv_iconst (v := (0 : Int32)) hx hb dX6_isSpan_18 (by decide) ?_
      exact W.zret (v := (0 : Int32)) (ty := .boolean) hx hb hr (by decide) (fun t ht hW => ⟨⟨(0 : Int32), (), rfl, h, x_ht ht hP⟩, hS.F ht⟩) hS.2.2 dX6_isSpan_19
    · have h := h.2 c_2
      refine lv_iconst (v := (1 : Int32)) hx hb dX6_isSpan_14 (by decide) ?_
      refine lv_goto (tgt := 19) hx hb dX6_isSpan_15 (by decide) ?_
      exact W.zret (v := (1 : Int32)) (ty := .boolean) hx hb hr (by decide) (fun t ht hW => ⟨⟨(1 : Int32), (), rfl, h, x_ht ht hP⟩, hS.F ht⟩) hS.2.2 dX6_isSpan_19
abbrev rmX6_openRepeated : Room := { frames := 3, cells := 18, slots := 3323, locals := 83 }
theorem wX6_openRepeated_k41 : Cond.constantLong RX6 41 (-2000000001) ∈ wsX6_openRepeated := by decide +kernel
theorem wX6_openRepeated_k173 : Cond.constant RX6 173 (1000000) ∈ wsX6_openRepeated := by decide +kernel
theorem wX6_openRepeated_c6 : ∀ w ∈ u_ws RX6 TX6 4, w ∈ wsX6_openRepeated := by decide +kernel
theorem wX6_openRepeated_f33 : Cond.fieldLink RX6 33 "DueWheels" "state" "LDueWheels$State;" ∈ wsX6_openRepeated := by decide +kernel
theorem wX6_openRepeated_c4 : ∀ w ∈ u_ws RX4 TX4 8, w ∈ wsX6_openRepeated := by decide +kernel
theorem wX6_openRepeated_f65 : Cond.fieldLink RX6 65 "DueWheels$State" "dues" "[[J" ∈ wsX6_openRepeated := by decide +kernel
theorem wX6_openRepeated_f10 : Cond.fieldLink RX6 10 "DueWheels" "kept" "LDueWheels$Kept;" ∈ wsX6_openRepeated := by decide +kernel
theorem wX6_openRepeated_k47 : Cond.constantLong RX6 47 (-2000000003) ∈ wsX6_openRepeated := by decide +kernel
def PX6_openRepeated  (st : Nat → StV) (kv : KvV) (cu : Nat) (x1 : Int32) (x2 : Int64) (x4 : Int64) (x6 : Int32) (x7 : Int32) (post : Int64 → (Nat → StV) → KvV → Prop) : Prop :=
  (PX6_isTickAhead st cu x2 (fun (r_1 : Int32) => ((r_1 = 0 → post (-2000000001 : Int64) st kv) ∧ (¬ r_1 = 0 → (PX6_isSpan x4 (fun (r_3 : Int32) => ((r_3 = 0 → post (-2000000001 : Int64) st kv) ∧ (¬ r_3 = 0 → ((x6 < 0 → post (-2000000001 : Int64) st kv) ∧ (¬ x6 < 0 → ((x6 ≤ (1000000 : Int32) → (PX4_isFull (st cu) (fun (r_7 : Int32) => ((r_7 = 0 → (PX1_keep cu st kv (fun (st_9 : Nat → StV) (kv_10 : KvV) => (PX4_open (st_9 cu) x1 x7 (fun (r_11 : Int32) (v_12 : StV) => ∀ st_13 : Nat → StV, st_13 = va_up st_9 cu v_12 → (vp_in r_11 200 ∧ (∀ st_15 : Nat → StV, st_15 = va_up st_13 cu (s_wdu (st_13 cu) 4 (r_11.toNatClampNeg) x4) → (vp_in r_11 200 ∧ (∀ st_17 : Nat → StV, st_17 = va_up st_15 cu (s_wdu (st_15 cu) 5 (r_11.toNatClampNeg) (x6.toInt64)) → (PX4_setTick (st_17 cu) r_11 x2 (fun (v_18 : StV) => ∀ st_19 : Nat → StV, st_19 = va_up st_17 cu v_18 → post (r_11.toInt64) st_19 kv_10))))))))))) ∧ (¬ r_7 = 0 → post (-2000000003 : Int64) st kv))))) ∧ (¬ x6 ≤ (1000000 : Int32) → post (-2000000001 : Int64) st kv))))))))))))
set_option maxHeartbeats 4000000 in
set_option maxRecDepth 100000 in
theorem qX6_openRepeated (l : Launch) (dC : Nat → ClassId) (dI : Nat → Nat → Nat) (ci : Nat → ClassId) (A : Nat → Prop) (a0 : Nat) (st : Nat → StV) (ln : Nat → LnV) (sv : SvV) (kv : KvV) (cu : Nat) (x1 : Int32) (x2 : Int64) (x4 : Int64) (x6 : Int32) (x7 : Int32) (post : Int64 → (Nat → StV) → KvV → Prop) (h : PX6_openRepeated st kv cu x1 x2 x4 x6 x7 post) : Met l yX6_openRepeated wsX6_openRepeated rmX6_openRepeated (va_Pc [.ref a0, .int x1, .long x2, .long x4, .int x6, .int x7] (xPre (dC, dI) ci A (xB (dC, dI) ci A a0 st ln sv kv cu))) (va_Ql (fun r9 (u : (Nat → StV) × KvV) => post r9 (u.1) (u.2)) (fun u t => xB (dC, dI) ci A a0 (u.1) ln sv (u.2) cu t.heap) A) 18 3323 A := by
  refine Met.ofW (cc := cX6_openRepeated) (maxL := 9) (ret := (some .long)) (by decide) rfl ?_
  intro p e s m args below meth c s₁ B hml hv
  obtain ⟨eargs, hP, hK, hN, hA⟩ := hv
  obtain ⟨ad, ns, hns, h0, hAD, hcu, hP⟩ := hP
  subst h0
  have C0 : xC p s m args meth c cX6_openRepeated 9 (some .long) RX6 wsX6_openRepeated (dC, dI) (xT ci) := ⟨B.exec, B.bytes, hml, B.returns, B.notSynchronized, findClass_of_methodNamed B.named, atoms_spec (ws := wsX6_openRepeated) B.pre, hK⟩
  obtain ⟨hx, hb, -, hr, hlocks, hown, hts, -⟩ := id C0
  have hS : va_S A s.heap s.heap [] := va_S.rf
  have hl := lv_entry ([.ref (ad 0), .int x1, .long x2, .long x4, .int x6, .int x7]) (n := 9) (Nat.le_of_ble_eq_true rfl)
  have ef : entryFrame m args 9 = entryFrame m ([.ref (ad 0), .int x1, .long x2, .long x4, .int x6, .int x7] : List Value).toArray 9 := by rw [eargs]
  rw [ef, lg_entry_eq]
  generalize (lg_sl ([.ref (ad 0), .int x1, .long x2, .long x4, .int x6, .int x7]) ++ List.replicate (9 - (lg_sl ([.ref (ad 0), .int x1, .long x2, .long x4, .int x6, .int x7])).length) Slot.unset).toArray = ls at hl ⊢
  have hl : lv_has ls 9 [(0, .ref (ad 0)), (1, .int x1), (2, .long x2), (4, .long x4), (6, .int x6), (7, .int x7)] := hl
  have hP : va_P (dC, dI) vwCl (xw (xn ns) ad (xc ad ci st ln sv kv cu)) s.heap := hP
  unfold PX6_openRepeated at h
  refine lv_aload_n hx hb dX6_openRepeated_0 rfl (lv_at hl 0 rfl) ?_
  refine lv_lload_n hx hb dX6_openRepeated_1 rfl (lv_at hl 2 rfl) ?_
  refine va_calli (va_runV (As := [.long x2]) (rest := []) ⟨hx, hb, C0.2.2.1, hown, hts⟩ (qX6_isTickAhead l dC dI ci A (ad 0) st ln sv kv cu x2 _ h) (cwV 1 hts gX6_openRepeated_X6_isTickAhead rfl rfl rfl (by decide +kernel) ⟨Nat.le_of_ble_eq_true rfl, Nat.le_of_ble_eq_true rfl⟩) ⟨xk_blind, xr_recv (r := (RX6, TX6, 4)) hK hP 0 (xq_c (by decide)) xe_X rfl, xk_pre ⟨ad, ns, hns, rfl, hAD, hcu, hP⟩ hK hN (fun q hq => hA q (Nat.le_trans hS.1 hq))⟩ rfl rfl hl.1 rfl (lv_room (Nat.le_of_ble_eq_true rfl)) dX6_openRepeated_2 ⟨Nat.le_of_ble_eq_true rfl, Nat.le_of_ble_eq_true rfl⟩) hS (fun _ _ h => h) (fun _ h => h) (fun r_1 _ t9 H locs ht hvm h hB _ _ hS => ?_)
  refine W.cs (cells' := 0) (slots' := 0) rfl rfl ?_
  obtain ⟨ad, ns, hns, h0, hAD, hcu, hP⟩ := xB_th ht hB
  rw [← h0] at hl ⊢
  have hns : k_ns kv = ns := hns
  have hP : va_P (dC, dI) vwCl (xw (xn ns) ad (xc ad ci st ln sv kv cu)) H := hP
  refine lv_if_eq (tgt := 28) hx hb dX6_openRepeated_5 (by decide) (fun c_2 => ?_) (fun c_2 => ?_)
  · have h := h.1 c_2
    refine lv_ldc2 (v := (-2000000001 : Int64)) hx hb hown (hts _ wX6_openRepeated_k41) dX6_openRepeated_28 ?_
    refine W.widen (k := 18) (n := 3323) (Nat.le_of_ble_eq_true rfl) (Nat.le_of_ble_eq_true rfl) ?_
    exact W.lret (v := (-2000000001 : Int64)) hx hb hr (fun t ht hW => ⟨⟨(-2000000001 : Int64), (st, kv), rfl, h, ⟨ad, ns, hns, rfl, hAD, hcu, x_ht ht hP⟩⟩, hS.F ht⟩) hS.2.2 dX6_openRepeated_31
  · have h := h.2 c_2
    refine lv_lload hx hb dX6_openRepeated_8 (lv_at hl 3 rfl) ?_
    refine va_calli (va_runS (As := [.long x4]) (rest := []) ⟨hx, hb, C0.2.2.1, hown, hts⟩ (qX6_isSpan l dC dI (xn ns) ad (xc ad ci st ln sv kv cu) (xT ci) A x4 _ h) (va_cwS 1 hts gX6_openRepeated_X6_isSpan rfl rfl rfl (by decide +kernel) ⟨Nat.le_of_ble_eq_true rfl, Nat.le_of_ble_eq_true rfl⟩) ⟨xr_blind, xr_pre hP hK⟩ rfl rfl hl.1 rfl (lv_room (Nat.le_of_ble_eq_true rfl)) dX6_openRepeated_10 ⟨Nat.le_of_ble_eq_true rfl, Nat.le_of_ble_eq_true rfl⟩) hS (fun _ _ h => h) (fun _ h => h) (fun r_3 _ t9 H locs ht hvm h hB _ _ hS => ?_)
    refine W.cs (cells' := 0) (slots' := 0) rfl rfl ?_
    have hP := x_th ht hB
    have hP : va_P (dC, dI) vwCl (xw (xn ns) ad (xc ad ci st ln sv kv cu)) H := hP
    refine lv_if_eq (tgt := 28) hx hb dX6_openRepeated_13 (by decide) (fun c_4 => ?_) (fun c_4 => ?_)
    · have h := h.1 c_4
      refine lv_ldc2 (v := (-2000000001 : Int64)) hx hb hown (hts _ wX6_openRepeated_k41) dX6_openRepeated_28 ?_
      refine W.widen (k := 18) (n := 3323) (Nat.le_of_ble_eq_true rfl) (Nat.le_of_ble_eq_true rfl) ?_
      exact W.lret (v := (-2000000001 : Int64)) hx hb hr (fun t ht hW => ⟨⟨(-2000000001 : Int64), (st, kv), rfl, h, ⟨ad, ns, hns, rfl, hAD, hcu, x_ht ht hP⟩⟩, hS.F ht⟩) hS.2.2 dX6_openRepeated_31
    · have h := h.2 c_4
      refine lv_iload hx hb dX6_openRepeated_16 (lv_at hl 4 rfl) ?_
      refine lv_if_lt (tgt := 28) hx hb dX6_openRepeated_18 (by decide) (fun c_5 => ?_) (fun c_5 => ?_)
      · have h := h.1 c_5
        refine lv_ldc2 (v := (-2000000001 : Int64)) hx hb hown (hts _ wX6_openRepeated_k41) dX6_openRepeated_28 ?_
        refine W.widen (k := 18) (n := 3323) (Nat.le_of_ble_eq_true rfl) (Nat.le_of_ble_eq_true rfl) ?_
        exact W.lret (v := (-2000000001 : Int64)) hx hb hr (fun t ht hW => ⟨⟨(-2000000001 : Int64), (st, kv), rfl, h, ⟨ad, ns, hns, rfl, hAD, hcu, x_ht ht hP⟩⟩, hS.F ht⟩) hS.2.2 dX6_openRepeated_31
      · have h := h.2 c_5
        refine lv_iload hx hb dX6_openRepeated_21 (lv_at hl 4 rfl) ?_
        refine lv_ldc (v := (1000000 : Int32)) hx hb hown (hts _ wX6_openRepeated_k173) dX6_openRepeated_23 ?_
        refine lv_icmp_le (tgt := 32) hx hb dX6_openRepeated_25 (by decide) (fun c_6 => ?_) (fun c_6 => ?_)
        · have h := h.1 c_6
          refine lv_aload_n hx hb dX6_openRepeated_32 rfl (lv_at hl 0 rfl) ?_
          refine xr_get (D := (dC, dI)) (C := RX6) (T := TX6) (N := 4) (v := .ref (ad (xaS cu))) hx hb hts wX6_openRepeated_c6 hown hK hP 0 (xq_c (by decide)) xe_X rfl 3 (by decide) wX6_openRepeated_f33 rfl rfl dX6_openRepeated_33 ?_
          have hP9 := x_e1 cu hP
          refine va_calli (va_runV (As := []) (rest := []) ⟨hx, hb, C0.2.2.1, hown, hts⟩ (qX4_isFull l dC dI ad ci A ns hAD st (st cu) ln sv kv cu cu hcu  _ h) (cwV 0 hts gX6_openRepeated_X4_isFull rfl rfl rfl (by decide +kernel) ⟨Nat.le_of_ble_eq_true rfl, Nat.le_of_ble_eq_true rfl⟩) ⟨xr_blind, xr_recv (r := (RX4, TX4, 8)) hK hP (xaS cu) (xq_S hcu) (xe_S rfl) rfl, xr_pre hP9 hK⟩ rfl rfl hl.1 rfl (lv_room (Nat.le_of_ble_eq_true rfl)) dX6_openRepeated_36 ⟨Nat.le_of_ble_eq_true rfl, Nat.le_of_ble_eq_true rfl⟩) hS (fun _ _ h => h) (fun _ h => h) (fun r_7 _ t9 H locs ht hvm h hB _ _ hS => ?_)
          refine W.cs (cells' := 0) (slots' := 0) rfl rfl ?_
          have hP := x_th ht hB
          have hP : va_P (dC, dI) vwCl (xw (xn ns) ad (xc ad ci st ln sv kv cu)) H := by simp only [x_eta] at hP; exact hP
          refine lv_if_eq (tgt := 46) hx hb dX6_openRepeated_39 (by decide) (fun c_8 => ?_) (fun c_8 => ?_)
          · have h := h.1 c_8
            refine lv_aload_n hx hb dX6_openRepeated_46 rfl (lv_at hl 0 rfl) ?_
            refine xr_get (D := (dC, dI)) (C := RX6) (T := TX6) (N := 4) (v := .ref (ad 1)) hx hb hts wX6_openRepeated_c6 hown hK hP 0 (xq_c (by decide)) xe_X rfl 0 (by decide) wX6_openRepeated_f10 rfl rfl dX6_openRepeated_47 ?_
            refine lv_aload_n hx hb dX6_openRepeated_50 rfl (lv_at hl 0 rfl) ?_
            refine xr_get (D := (dC, dI)) (C := RX6) (T := TX6) (N := 4) (v := .ref (ad (xaS cu))) hx hb hts wX6_openRepeated_c6 hown hK hP 0 (xq_c (by decide)) xe_X rfl 3 (by decide) wX6_openRepeated_f33 rfl rfl dX6_openRepeated_51 ?_
            refine va_callv (va_runV (As := [.ref (ad (xaS cu))]) (rest := []) ⟨hx, hb, C0.2.2.1, hown, hts⟩ (qX1_keep l dC dI ad ci A ns hAD st ln sv kv cu cu hcu hcu hns  _ h) (cwV 1 hts gX6_openRepeated_X1_keep rfl rfl rfl (by decide +kernel) ⟨Nat.le_of_ble_eq_true rfl, Nat.le_of_ble_eq_true rfl⟩) ⟨xk_blind, xr_recv (r := (RX1, TX1, 3)) hK hP 1 (xq_c (by decide)) xe_K rfl, xk_pre hP hK hN (fun q hq => hA q (Nat.le_trans hS.1 hq))⟩ rfl rfl hl.1 rfl (lv_room (Nat.le_of_ble_eq_true rfl)) dX6_openRepeated_54 ⟨Nat.le_of_ble_eq_true rfl, Nat.le_of_ble_eq_true rfl⟩) hS (fun _ _ h => h) (fun _ h => h) (fun u9 t9 H locs ht hvm h hB _ _ hS => ?_)
            refine W.cs (cells' := 18) (slots' := 3323) rfl rfl ?_
            obtain ⟨st_9, kv_10⟩ := u9
            obtain ⟨ad, ns, hns, h0, hAD, hcu, hP⟩ := xB_th ht hB
            rw [← h0] at hl ⊢
            have hns : k_ns kv_10 = ns := hns
            have hP : va_P (dC, dI) vwCl (xw (xn ns) ad (xc ad ci st_9 ln sv kv_10 cu)) H := hP
            refine lv_aload_n hx hb dX6_openRepeated_57 rfl (lv_at hl 0 rfl) ?_
            refine xr_get (D := (dC, dI)) (C := RX6) (T := TX6) (N := 4) (v := .ref (ad (xaS cu))) hx hb hts wX6_openRepeated_c6 hown hK hP 0 (xq_c (by decide)) xe_X rfl 3 (by decide) wX6_openRepeated_f33 rfl rfl dX6_openRepeated_58 ?_
            refine lv_iload_n hx hb dX6_openRepeated_61 rfl (lv_at hl 1 rfl) ?_
            refine lv_iload hx hb dX6_openRepeated_62 (lv_at hl 5 rfl) ?_
            have hP9 := x_e1 cu hP
            refine va_calli (va_runV (As := [.int x1, .int x7]) (rest := []) ⟨hx, hb, C0.2.2.1, hown, hts⟩ (qX4_open l dC dI ad ci A ns hAD st_9 (st_9 cu) ln sv kv_10 cu cu hcu x1 x7 _ h) (cwV 2 hts gX6_openRepeated_X4_open rfl rfl rfl (by decide +kernel) ⟨Nat.le_of_ble_eq_true rfl, Nat.le_of_ble_eq_true rfl⟩) ⟨xr_blind, xr_recv (r := (RX4, TX4, 8)) hK hP (xaS cu) (xq_S hcu) (xe_S rfl) rfl, xr_pre hP9 hK⟩ rfl rfl hl.1 rfl (lv_room (Nat.le_of_ble_eq_true rfl)) dX6_openRepeated_64 ⟨Nat.le_of_ble_eq_true rfl, Nat.le_of_ble_eq_true rfl⟩) hS (fun _ _ h => h) (fun _ h => h) (fun r_11 v_12 t9 H locs ht hvm h hB _ _ hS => ?_)
            refine W.cs (cells' := 18) (slots' := 3323) rfl rfl ?_
            have hP := x_th ht hB
            have hP : va_P (dC, dI) vwCl (xw (xn ns) ad (xc ad ci (va_up st_9 cu v_12) ln sv kv_10 cu)) H := by exact hP
            obtain ⟨st_13, est_13⟩ : ∃ z : Nat → StV, z = va_up st_9 cu v_12 := ⟨_, rfl⟩
            have h := h st_13 est_13
            rw [← est_13] at hP
            refine lv_istore (lv' := [(8, .int r_11), (0, .ref (ad 0)), (1, .int x1), (2, .long x2), (4, .long x4), (6, .int x6), (7, .int x7)]) hx hb dX6_openRepeated_67 hl (by decide) rfl (fun ls hl => ?_)
            refine lv_aload_n hx hb dX6_openRepeated_69 rfl (lv_at hl 1 rfl) ?_
            refine xr_get (D := (dC, dI)) (C := RX6) (T := TX6) (N := 4) (v := .ref (ad (xaS cu))) hx hb hts wX6_openRepeated_c6 hown hK hP 0 (xq_c (by decide)) xe_X rfl 3 (by decide) wX6_openRepeated_f33 rfl rfl dX6_openRepeated_70 ?_
            refine xr_get (D := (dC, dI)) (C := RX4) (T := TX4) (N := 8) (v := .ref (ad (xaD0 cu))) hx hb hts wX6_openRepeated_c4 hown hK hP (xaS cu) (xq_S hcu) (xe_S rfl) rfl 6 (by decide) wX6_openRepeated_f65 rfl rfl dX6_openRepeated_73 ?_
            refine lv_iconst (v := (4 : Int32)) hx hb dX6_openRepeated_76 (by decide) ?_
            refine xr_aald (k := 4) (b := ad (xaD cu 4)) hx hb hK hP (xaD0 cu) 4 (xq_D0 hcu) xe_D0 rfl rfl rfl (x_in _ _ (by decide)) rfl dX6_openRepeated_77 ?_
            refine lv_iload hx hb dX6_openRepeated_78 (lv_at hl 0 rfl) ?_
            refine lv_lload hx hb dX6_openRepeated_80 (lv_at hl 4 rfl) ?_
            obtain ⟨g_14, h⟩ := h
            obtain ⟨st_15, est_15⟩ : ∃ z : Nat → StV, z = va_up st_13 cu (s_wdu (st_13 cu) 4 (r_11.toNatClampNeg) x4) := ⟨_, rfl⟩
            have h := h st_15 est_15
            refine xr_last (k := r_11.toNatClampNeg) (x := x4) (g := (xc ad ci st_15 ln sv kv_10 cu)) hx hb hK hP hAD hS (xaD cu 4) 1 (xq_D hcu (by decide)) (xe_D (by decide) rfl) rfl rfl g_14 dX6_openRepeated_82 (xg_du (by decide) rfl est_15.symm) (fun H locs hP hS => ?_)
            refine lv_aload_n hx hb dX6_openRepeated_83 rfl (lv_at hl 1 rfl) ?_
            refine xr_get (D := (dC, dI)) (C := RX6) (T := TX6) (N := 4) (v := .ref (ad (xaS cu))) hx hb hts wX6_openRepeated_c6 hown hK hP 0 (xq_c (by decide)) xe_X rfl 3 (by decide) wX6_openRepeated_f33 rfl rfl dX6_openRepeated_84 ?_
            refine xr_get (D := (dC, dI)) (C := RX4) (T := TX4) (N := 8) (v := .ref (ad (xaD0 cu))) hx hb hts wX6_openRepeated_c4 hown hK hP (xaS cu) (xq_S hcu) (xe_S rfl) rfl 6 (by decide) wX6_openRepeated_f65 rfl rfl dX6_openRepeated_87 ?_
            refine lv_iconst (v := (5 : Int32)) hx hb dX6_openRepeated_90 (by decide) ?_
            refine xr_aald (k := 5) (b := ad (xaD cu 5)) hx hb hK hP (xaD0 cu) 4 (xq_D0 hcu) xe_D0 rfl rfl rfl (x_in _ _ (by decide)) rfl dX6_openRepeated_91 ?_
            refine lv_iload hx hb dX6_openRepeated_92 (lv_at hl 0 rfl) ?_
            refine lv_iload hx hb dX6_openRepeated_94 (lv_at hl 5 rfl) ?_
            refine lv_i2l hx hb dX6_openRepeated_96 rfl ?_
            obtain ⟨g_16, h⟩ := h
            obtain ⟨st_17, est_17⟩ : ∃ z : Nat → StV, z = va_up st_15 cu (s_wdu (st_15 cu) 5 (r_11.toNatClampNeg) (x6.toInt64)) := ⟨_, rfl⟩
            have h := h st_17 est_17
            refine xr_last (k := r_11.toNatClampNeg) (x := (x6.toInt64)) (g := (xc ad ci st_17 ln sv kv_10 cu)) hx hb hK hP hAD hS (xaD cu 5) 1 (xq_D hcu (by decide)) (xe_D (by decide) rfl) rfl rfl g_16 dX6_openRepeated_97 (xg_du (by decide) rfl est_17.symm) (fun H locs hP hS => ?_)
            refine lv_aload_n hx hb dX6_openRepeated_98 rfl (lv_at hl 1 rfl) ?_
            refine xr_get (D := (dC, dI)) (C := RX6) (T := TX6) (N := 4) (v := .ref (ad (xaS cu))) hx hb hts wX6_openRepeated_c6 hown hK hP 0 (xq_c (by decide)) xe_X rfl 3 (by decide) wX6_openRepeated_f33 rfl rfl dX6_openRepeated_99 ?_
            refine lv_iload hx hb dX6_openRepeated_102 (lv_at hl 0 rfl) ?_
            refine lv_lload_n hx hb dX6_openRepeated_104 rfl (lv_at hl 3 rfl) ?_
            have hP9 := x_e1 cu hP
            refine va_callv (va_runV (As := [.int r_11, .long x2]) (rest := []) ⟨hx, hb, C0.2.2.1, hown, hts⟩ (qX4_setTick l dC dI ad ci A ns hAD st_17 (st_17 cu) ln sv kv_10 cu cu hcu r_11 x2 _ h) (cwV 2 hts gX6_openRepeated_X4_setTick rfl rfl rfl (by decide +kernel) ⟨Nat.le_of_ble_eq_true rfl, Nat.le_of_ble_eq_true rfl⟩) ⟨xr_blind, xr_recv (r := (RX4, TX4, 8)) hK hP (xaS cu) (xq_S hcu) (xe_S rfl) rfl, xr_pre hP9 hK⟩ rfl rfl hl.1 rfl (lv_room (Nat.le_of_ble_eq_true rfl)) dX6_openRepeated_105 ⟨Nat.le_of_ble_eq_true rfl, Nat.le_of_ble_eq_true rfl⟩) hS (fun _ _ h => h) (fun _ h => h) (fun v_18 t9 H locs ht hvm h hB _ _ hS => ?_)
            refine W.cs (cells' := 18) (slots' := 3323) rfl rfl ?_
            have hP := x_th ht hB
            have hP : va_P (dC, dI) vwCl (xw (xn ns) ad (xc ad ci (va_up st_17 cu v_18) ln sv kv_10 cu)) H := by exact hP
            obtain ⟨st_19, est_19⟩ : ∃ z : Nat → StV, z = va_up st_17 cu v_18 := ⟨_, rfl⟩
            have h := h st_19 est_19
            rw [← est_19] at hP
            refine lv_iload hx hb dX6_openRepeated_108 (lv_at hl 0 rfl) ?_
            refine lv_i2l hx hb dX6_openRepeated_110 rfl ?_
            exact W.lret (v := (r_11.toInt64)) hx hb hr (fun t ht hW => ⟨⟨(r_11.toInt64), (st_19, kv_10), rfl, h, ⟨ad, ns, hns, rfl, hAD, hcu, x_ht ht hP⟩⟩, hS.F ht⟩) hS.2.2 dX6_openRepeated_111
          · have h := h.2 c_8
            refine lv_ldc2 (v := (-2000000003 : Int64)) hx hb hown (hts _ wX6_openRepeated_k47) dX6_openRepeated_42 ?_
            refine W.widen (k := 18) (n := 3323) (Nat.le_of_ble_eq_true rfl) (Nat.le_of_ble_eq_true rfl) ?_
            exact W.lret (v := (-2000000003 : Int64)) hx hb hr (fun t ht hW => ⟨⟨(-2000000003 : Int64), (st, kv), rfl, h, ⟨ad, ns, hns, rfl, hAD, hcu, x_ht ht hP⟩⟩, hS.F ht⟩) hS.2.2 dX6_openRepeated_45
        · have h := h.2 c_6
          refine lv_ldc2 (v := (-2000000001 : Int64)) hx hb hown (hts _ wX6_openRepeated_k41) dX6_openRepeated_28 ?_
          refine W.widen (k := 18) (n := 3323) (Nat.le_of_ble_eq_true rfl) (Nat.le_of_ble_eq_true rfl) ?_
          exact W.lret (v := (-2000000001 : Int64)) hx hb hr (fun t ht hW => ⟨⟨(-2000000001 : Int64), (st, kv), rfl, h, ⟨ad, ns, hns, rfl, hAD, hcu, x_ht ht hP⟩⟩, hS.F ht⟩) hS.2.2 dX6_openRepeated_31
abbrev rmX6_often : Room := { frames := 4, cells := 18, slots := 3323, locals := 111 }
def PX6_often  (st : Nat → StV) (kv : KvV) (cu : Nat) (x1 : Int64) (x3 : Int64) (x5 : Int32) (x6 : Int32) (post : Int64 → (Nat → StV) → KvV → Prop) : Prop :=
  (PX6_openRepeated st kv cu (1 : Int32) x1 x3 x5 x6 (fun (r_1 : Int64) (st_2 : Nat → StV) (kv_3 : KvV) => post r_1 st_2 kv_3))
set_option maxHeartbeats 4000000 in
set_option maxRecDepth 100000 in
theorem qX6_often (l : Launch) (dC : Nat → ClassId) (dI : Nat → Nat → Nat) (ci : Nat → ClassId) (A : Nat → Prop) (a0 : Nat) (st : Nat → StV) (ln : Nat → LnV) (sv : SvV) (kv : KvV) (cu : Nat) (x1 : Int64) (x3 : Int64) (x5 : Int32) (x6 : Int32) (post : Int64 → (Nat → StV) → KvV → Prop) (h : PX6_often st kv cu x1 x3 x5 x6 post) : Met l yX6_often wsX6_often rmX6_often (va_Pc [.ref a0, .long x1, .long x3, .int x5, .int x6] (xPre (dC, dI) ci A (xB (dC, dI) ci A a0 st ln sv kv cu))) (va_Ql (fun r9 (u : (Nat → StV) × KvV) => post r9 (u.1) (u.2)) (fun u t => xB (dC, dI) ci A a0 (u.1) ln sv (u.2) cu t.heap) A) 18 3323 A := by
  refine Met.ofW (cc := cX6_often) (maxL := 7) (ret := (some .long)) (by decide) rfl ?_
  intro p e s m args below meth c s₁ B hml hv
  obtain ⟨eargs, hP, hK, hN, hA⟩ := hv
  obtain ⟨ad, ns, hns, h0, hAD, hcu, hP⟩ := hP
  subst h0
  have C0 : xC p s m args meth c cX6_often 7 (some .long) RX6 wsX6_often (dC, dI) (xT ci) := ⟨B.exec, B.bytes, hml, B.returns, B.notSynchronized, findClass_of_methodNamed B.named, atoms_spec (ws := wsX6_often) B.pre, hK⟩
  obtain ⟨hx, hb, -, hr, hlocks, hown, hts, -⟩ := id C0
  have hS : va_S A s.heap s.heap [] := va_S.rf
  have hl := lv_entry ([.ref (ad 0), .long x1, .long x3, .int x5, .int x6]) (n := 7) (Nat.le_of_ble_eq_true rfl)
  have ef : entryFrame m args 7 = entryFrame m ([.ref (ad 0), .long x1, .long x3, .int x5, .int x6] : List Value).toArray 7 := by rw [eargs]
  rw [ef, lg_entry_eq]
  generalize (lg_sl ([.ref (ad 0), .long x1, .long x3, .int x5, .int x6]) ++ List.replicate (7 - (lg_sl ([.ref (ad 0), .long x1, .long x3, .int x5, .int x6])).length) Slot.unset).toArray = ls at hl ⊢
  have hl : lv_has ls 7 [(0, .ref (ad 0)), (1, .long x1), (3, .long x3), (5, .int x5), (6, .int x6)] := hl
  have hP : va_P (dC, dI) vwCl (xw (xn ns) ad (xc ad ci st ln sv kv cu)) s.heap := hP
  unfold PX6_often at h
  refine lv_aload_n hx hb dX6_often_0 rfl (lv_at hl 0 rfl) ?_
  refine lv_iconst (v := (1 : Int32)) hx hb dX6_often_1 (by decide) ?_
  refine lv_lload_n hx hb dX6_often_2 rfl (lv_at hl 1 rfl) ?_
  refine lv_lload_n hx hb dX6_often_3 rfl (lv_at hl 2 rfl) ?_
  refine lv_iload hx hb dX6_often_4 (lv_at hl 3 rfl) ?_
  refine lv_iload hx hb dX6_often_6 (lv_at hl 4 rfl) ?_
  refine va_calll (va_runV (As := [.int (1 : Int32), .long x1, .long x3, .int x5, .int x6]) (rest := []) ⟨hx, hb, C0.2.2.1, hown, hts⟩ (qX6_openRepeated l dC dI ci A (ad 0) st ln sv kv cu (1 : Int32) x1 x3 x5 x6 _ h) (cwV 5 hts gX6_often_X6_openRepeated rfl rfl rfl (by decide +kernel) ⟨Nat.le_of_ble_eq_true rfl, Nat.le_of_ble_eq_true rfl⟩) ⟨xk_blind, xr_recv (r := (RX6, TX6, 4)) hK hP 0 (xq_c (by decide)) xe_X rfl, xk_pre ⟨ad, ns, hns, rfl, hAD, hcu, hP⟩ hK hN (fun q hq => hA q (Nat.le_trans hS.1 hq))⟩ rfl rfl hl.1 rfl (lv_room (Nat.le_of_ble_eq_true rfl)) dX6_often_8 ⟨Nat.le_of_ble_eq_true rfl, Nat.le_of_ble_eq_true rfl⟩) hS (fun _ _ h => h) (fun _ h => h) (fun r_1 u9 t9 H locs ht hvm h hB _ _ hS => ?_)
  refine W.cs (cells' := 18) (slots' := 3323) rfl rfl ?_
  obtain ⟨st_2, kv_3⟩ := u9
  obtain ⟨ad, ns, hns, h0, hAD, hcu, hP⟩ := xB_th ht hB
  rw [← h0] at hl ⊢
  have hns : k_ns kv_3 = ns := hns
  have hP : va_P (dC, dI) vwCl (xw (xn ns) ad (xc ad ci st_2 ln sv kv_3 cu)) H := hP
  exact W.lret (v := r_1) hx hb hr (fun t ht hW => ⟨⟨r_1, (st_2, kv_3), rfl, h, ⟨ad, ns, hns, rfl, hAD, hcu, x_ht ht hP⟩⟩, hS.F ht⟩) hS.2.2 dX6_often_11
abbrev rmX6_loose : Room := { frames := 3, cells := 18, slots := 3323, locals := 83 }
theorem wX6_loose_k41 : Cond.constantLong RX6 41 (-2000000001) ∈ wsX6_loose := by decide +kernel
theorem wX6_loose_c6 : ∀ w ∈ u_ws RX6 TX6 4, w ∈ wsX6_loose := by decide +kernel
theorem wX6_loose_f33 : Cond.fieldLink RX6 33 "DueWheels" "state" "LDueWheels$State;" ∈ wsX6_loose := by decide +kernel
theorem wX6_loose_c4 : ∀ w ∈ u_ws RX4 TX4 8, w ∈ wsX6_loose := by decide +kernel
theorem wX6_loose_f65 : Cond.fieldLink RX6 65 "DueWheels$State" "dues" "[[J" ∈ wsX6_loose := by decide +kernel
theorem wX6_loose_f10 : Cond.fieldLink RX6 10 "DueWheels" "kept" "LDueWheels$Kept;" ∈ wsX6_loose := by decide +kernel
theorem wX6_loose_k47 : Cond.constantLong RX6 47 (-2000000003) ∈ wsX6_loose := by decide +kernel
def PX6_loose  (st : Nat → StV) (kv : KvV) (cu : Nat) (x1 : Int64) (x3 : Int64) (x5 : Int32) (post : Int64 → (Nat → StV) → KvV → Prop) : Prop :=
  (PX6_isTickAhead st cu x3 (fun (r_1 : Int32) => ((r_1 = 0 → post (-2000000001 : Int64) st kv) ∧ (¬ r_1 = 0 → ((x1 < (0 : Int64) → post (-2000000001 : Int64) st kv) ∧ (¬ x1 < (0 : Int64) → ((x1 ≤ x3 → (PX4_isFull (st cu) (fun (r_5 : Int32) => ((r_5 = 0 → (PX1_keep cu st kv (fun (st_7 : Nat → StV) (kv_8 : KvV) => (PX4_open (st_7 cu) (2 : Int32) x5 (fun (r_9 : Int32) (v_10 : StV) => ∀ st_11 : Nat → StV, st_11 = va_up st_7 cu v_10 → (vp_in r_9 200 ∧ (∀ st_13 : Nat → StV, st_13 = va_up st_11 cu (s_wdu (st_11 cu) 3 (r_9.toNatClampNeg) x1) → (PX4_setTick (st_13 cu) r_9 x3 (fun (v_14 : StV) => ∀ st_15 : Nat → StV, st_15 = va_up st_13 cu v_14 → post (r_9.toInt64) st_15 kv_8))))))))) ∧ (¬ r_5 = 0 → post (-2000000003 : Int64) st kv))))) ∧ (¬ x1 ≤ x3 → post (-2000000001 : Int64) st kv))))))))
set_option maxHeartbeats 4000000 in
set_option maxRecDepth 100000 in
theorem qX6_loose (l : Launch) (dC : Nat → ClassId) (dI : Nat → Nat → Nat) (ci : Nat → ClassId) (A : Nat → Prop) (a0 : Nat) (st : Nat → StV) (ln : Nat → LnV) (sv : SvV) (kv : KvV) (cu : Nat) (x1 : Int64) (x3 : Int64) (x5 : Int32) (post : Int64 → (Nat → StV) → KvV → Prop) (h : PX6_loose st kv cu x1 x3 x5 post) : Met l yX6_loose wsX6_loose rmX6_loose (va_Pc [.ref a0, .long x1, .long x3, .int x5] (xPre (dC, dI) ci A (xB (dC, dI) ci A a0 st ln sv kv cu))) (va_Ql (fun r9 (u : (Nat → StV) × KvV) => post r9 (u.1) (u.2)) (fun u t => xB (dC, dI) ci A a0 (u.1) ln sv (u.2) cu t.heap) A) 18 3323 A := by
  refine Met.ofW (cc := cX6_loose) (maxL := 7) (ret := (some .long)) (by decide) rfl ?_
  intro p e s m args below meth c s₁ B hml hv
  obtain ⟨eargs, hP, hK, hN, hA⟩ := hv
  obtain ⟨ad, ns, hns, h0, hAD, hcu, hP⟩ := hP
  subst h0
  have C0 : xC p s m args meth c cX6_loose 7 (some .long) RX6 wsX6_loose (dC, dI) (xT ci) := ⟨B.exec, B.bytes, hml, B.returns, B.notSynchronized, findClass_of_methodNamed B.named, atoms_spec (ws := wsX6_loose) B.pre, hK⟩
  obtain ⟨hx, hb, -, hr, hlocks, hown, hts, -⟩ := id C0
  have hS : va_S A s.heap s.heap [] := va_S.rf
  have hl := lv_entry ([.ref (ad 0), .long x1, .long x3, .int x5]) (n := 7) (Nat.le_of_ble_eq_true rfl)
  have ef : entryFrame m args 7 = entryFrame m ([.ref (ad 0), .long x1, .long x3, .int x5] : List Value).toArray 7 := by rw [eargs]
  rw [ef, lg_entry_eq]
  generalize (lg_sl ([.ref (ad 0), .long x1, .long x3, .int x5]) ++ List.replicate (7 - (lg_sl ([.ref (ad 0), .long x1, .long x3, .int x5])).length) Slot.unset).toArray = ls at hl ⊢
  have hl : lv_has ls 7 [(0, .ref (ad 0)), (1, .long x1), (3, .long x3), (5, .int x5)] := hl
  have hP : va_P (dC, dI) vwCl (xw (xn ns) ad (xc ad ci st ln sv kv cu)) s.heap := hP
  unfold PX6_loose at h
  refine lv_aload_n hx hb dX6_loose_0 rfl (lv_at hl 0 rfl) ?_
  refine lv_lload_n hx hb dX6_loose_1 rfl (lv_at hl 2 rfl) ?_
  refine va_calli (va_runV (As := [.long x3]) (rest := []) ⟨hx, hb, C0.2.2.1, hown, hts⟩ (qX6_isTickAhead l dC dI ci A (ad 0) st ln sv kv cu x3 _ h) (cwV 1 hts gX6_loose_X6_isTickAhead rfl rfl rfl (by decide +kernel) ⟨Nat.le_of_ble_eq_true rfl, Nat.le_of_ble_eq_true rfl⟩) ⟨xk_blind, xr_recv (r := (RX6, TX6, 4)) hK hP 0 (xq_c (by decide)) xe_X rfl, xk_pre ⟨ad, ns, hns, rfl, hAD, hcu, hP⟩ hK hN (fun q hq => hA q (Nat.le_trans hS.1 hq))⟩ rfl rfl hl.1 rfl (lv_room (Nat.le_of_ble_eq_true rfl)) dX6_loose_2 ⟨Nat.le_of_ble_eq_true rfl, Nat.le_of_ble_eq_true rfl⟩) hS (fun _ _ h => h) (fun _ h => h) (fun r_1 _ t9 H locs ht hvm h hB _ _ hS => ?_)
  refine W.cs (cells' := 0) (slots' := 0) rfl rfl ?_
  obtain ⟨ad, ns, hns, h0, hAD, hcu, hP⟩ := xB_th ht hB
  rw [← h0] at hl ⊢
  have hns : k_ns kv = ns := hns
  have hP : va_P (dC, dI) vwCl (xw (xn ns) ad (xc ad ci st ln sv kv cu)) H := hP
  refine lv_if_eq (tgt := 20) hx hb dX6_loose_5 (by decide) (fun c_2 => ?_) (fun c_2 => ?_)
  · have h := h.1 c_2
    refine lv_ldc2 (v := (-2000000001 : Int64)) hx hb hown (hts _ wX6_loose_k41) dX6_loose_20 ?_
    refine W.widen (k := 18) (n := 3323) (Nat.le_of_ble_eq_true rfl) (Nat.le_of_ble_eq_true rfl) ?_
    exact W.lret (v := (-2000000001 : Int64)) hx hb hr (fun t ht hW => ⟨⟨(-2000000001 : Int64), (st, kv), rfl, h, ⟨ad, ns, hns, rfl, hAD, hcu, x_ht ht hP⟩⟩, hS.F ht⟩) hS.2.2 dX6_loose_23
  · have h := h.2 c_2
    refine lv_lload_n hx hb dX6_loose_8 rfl (lv_at hl 1 rfl) ?_
    refine lv_lconst (v := (0 : Int64)) hx hb dX6_loose_9 (by decide) ?_
    refine xr_if_lcmp_lt (tgt := 20) hx hb dX6_loose_10 dX6_loose_11 (by decide) (fun c_3 => ?_) (fun c_3 => ?_)
    · have h := h.1 c_3
      refine lv_ldc2 (v := (-2000000001 : Int64)) hx hb hown (hts _ wX6_loose_k41) dX6_loose_20 ?_
      refine W.widen (k := 18) (n := 3323) (Nat.le_of_ble_eq_true rfl) (Nat.le_of_ble_eq_true rfl) ?_
      exact W.lret (v := (-2000000001 : Int64)) hx hb hr (fun t ht hW => ⟨⟨(-2000000001 : Int64), (st, kv), rfl, h, ⟨ad, ns, hns, rfl, hAD, hcu, x_ht ht hP⟩⟩, hS.F ht⟩) hS.2.2 dX6_loose_23
    · have h := h.2 c_3
      refine lv_lload_n hx hb dX6_loose_14 rfl (lv_at hl 1 rfl) ?_
      refine lv_lload_n hx hb dX6_loose_15 rfl (lv_at hl 2 rfl) ?_
      refine xr_if_lcmp_le (tgt := 24) hx hb dX6_loose_16 dX6_loose_17 (by decide) (fun c_4 => ?_) (fun c_4 => ?_)
      · have h := h.1 c_4
        refine lv_aload_n hx hb dX6_loose_24 rfl (lv_at hl 0 rfl) ?_
        refine xr_get (D := (dC, dI)) (C := RX6) (T := TX6) (N := 4) (v := .ref (ad (xaS cu))) hx hb hts wX6_loose_c6 hown hK hP 0 (xq_c (by decide)) xe_X rfl 3 (by decide) wX6_loose_f33 rfl rfl dX6_loose_25 ?_
        have hP9 := x_e1 cu hP
        refine va_calli (va_runV (As := []) (rest := []) ⟨hx, hb, C0.2.2.1, hown, hts⟩ (qX4_isFull l dC dI ad ci A ns hAD st (st cu) ln sv kv cu cu hcu  _ h) (cwV 0 hts gX6_loose_X4_isFull rfl rfl rfl (by decide +kernel) ⟨Nat.le_of_ble_eq_true rfl, Nat.le_of_ble_eq_true rfl⟩) ⟨xr_blind, xr_recv (r := (RX4, TX4, 8)) hK hP (xaS cu) (xq_S hcu) (xe_S rfl) rfl, xr_pre hP9 hK⟩ rfl rfl hl.1 rfl (lv_room (Nat.le_of_ble_eq_true rfl)) dX6_loose_28 ⟨Nat.le_of_ble_eq_true rfl, Nat.le_of_ble_eq_true rfl⟩) hS (fun _ _ h => h) (fun _ h => h) (fun r_5 _ t9 H locs ht hvm h hB _ _ hS => ?_)
        refine W.cs (cells' := 0) (slots' := 0) rfl rfl ?_
        have hP := x_th ht hB
        have hP : va_P (dC, dI) vwCl (xw (xn ns) ad (xc ad ci st ln sv kv cu)) H := by simp only [x_eta] at hP; exact hP
        refine lv_if_eq (tgt := 38) hx hb dX6_loose_31 (by decide) (fun c_6 => ?_) (fun c_6 => ?_)
        · have h := h.1 c_6
          refine lv_aload_n hx hb dX6_loose_38 rfl (lv_at hl 0 rfl) ?_
          refine xr_get (D := (dC, dI)) (C := RX6) (T := TX6) (N := 4) (v := .ref (ad 1)) hx hb hts wX6_loose_c6 hown hK hP 0 (xq_c (by decide)) xe_X rfl 0 (by decide) wX6_loose_f10 rfl rfl dX6_loose_39 ?_
          refine lv_aload_n hx hb dX6_loose_42 rfl (lv_at hl 0 rfl) ?_
          refine xr_get (D := (dC, dI)) (C := RX6) (T := TX6) (N := 4) (v := .ref (ad (xaS cu))) hx hb hts wX6_loose_c6 hown hK hP 0 (xq_c (by decide)) xe_X rfl 3 (by decide) wX6_loose_f33 rfl rfl dX6_loose_43 ?_
          refine va_callv (va_runV (As := [.ref (ad (xaS cu))]) (rest := []) ⟨hx, hb, C0.2.2.1, hown, hts⟩ (qX1_keep l dC dI ad ci A ns hAD st ln sv kv cu cu hcu hcu hns  _ h) (cwV 1 hts gX6_loose_X1_keep rfl rfl rfl (by decide +kernel) ⟨Nat.le_of_ble_eq_true rfl, Nat.le_of_ble_eq_true rfl⟩) ⟨xk_blind, xr_recv (r := (RX1, TX1, 3)) hK hP 1 (xq_c (by decide)) xe_K rfl, xk_pre hP hK hN (fun q hq => hA q (Nat.le_trans hS.1 hq))⟩ rfl rfl hl.1 rfl (lv_room (Nat.le_of_ble_eq_true rfl)) dX6_loose_46 ⟨Nat.le_of_ble_eq_true rfl, Nat.le_of_ble_eq_true rfl⟩) hS (fun _ _ h => h) (fun _ h => h) (fun u9 t9 H locs ht hvm h hB _ _ hS => ?_)
          refine W.cs (cells' := 18) (slots' := 3323) rfl rfl ?_
          obtain ⟨st_7, kv_8⟩ := u9
          obtain ⟨ad, ns, hns, h0, hAD, hcu, hP⟩ := xB_th ht hB
          rw [← h0] at hl ⊢
          have hns : k_ns kv_8 = ns := hns
          have hP : va_P (dC, dI) vwCl (xw (xn ns) ad (xc ad ci st_7 ln sv kv_8 cu)) H := hP
          refine lv_aload_n hx hb dX6_loose_49 rfl (lv_at hl 0 rfl) ?_
          refine xr_get (D := (dC, dI)) (C := RX6) (T := TX6) (N := 4) (v := .ref (ad (xaS cu))) hx hb hts wX6_loose_c6 hown hK hP 0 (xq_c (by decide)) xe_X rfl 3 (by decide) wX6_loose_f33 rfl rfl dX6_loose_50 ?_
          refine lv_iconst (v := (2 : Int32)) hx hb dX6_loose_53 (by decide) ?_
          refine lv_iload hx hb dX6_loose_54 (lv_at hl 3 rfl) ?_
          have hP9 := x_e1 cu hP
          refine va_calli (va_runV (As := [.int (2 : Int32), .int x5]) (rest := []) ⟨hx, hb, C0.2.2.1, hown, hts⟩ (qX4_open l dC dI ad ci A ns hAD st_7 (st_7 cu) ln sv kv_8 cu cu hcu (2 : Int32) x5 _ h) (cwV 2 hts gX6_loose_X4_open rfl rfl rfl (by decide +kernel) ⟨Nat.le_of_ble_eq_true rfl, Nat.le_of_ble_eq_true rfl⟩) ⟨xr_blind, xr_recv (r := (RX4, TX4, 8)) hK hP (xaS cu) (xq_S hcu) (xe_S rfl) rfl, xr_pre hP9 hK⟩ rfl rfl hl.1 rfl (lv_room (Nat.le_of_ble_eq_true rfl)) dX6_loose_56 ⟨Nat.le_of_ble_eq_true rfl, Nat.le_of_ble_eq_true rfl⟩) hS (fun _ _ h => h) (fun _ h => h) (fun r_9 v_10 t9 H locs ht hvm h hB _ _ hS => ?_)
          refine W.cs (cells' := 18) (slots' := 3323) rfl rfl ?_
          have hP := x_th ht hB
          have hP : va_P (dC, dI) vwCl (xw (xn ns) ad (xc ad ci (va_up st_7 cu v_10) ln sv kv_8 cu)) H := by exact hP
          obtain ⟨st_11, est_11⟩ : ∃ z : Nat → StV, z = va_up st_7 cu v_10 := ⟨_, rfl⟩
          have h := h st_11 est_11
          rw [← est_11] at hP
          refine lv_istore (lv' := [(6, .int r_9), (0, .ref (ad 0)), (1, .long x1), (3, .long x3), (5, .int x5)]) hx hb dX6_loose_59 hl (by decide) rfl (fun ls hl => ?_)
          refine lv_aload_n hx hb dX6_loose_61 rfl (lv_at hl 1 rfl) ?_
          refine xr_get (D := (dC, dI)) (C := RX6) (T := TX6) (N := 4) (v := .ref (ad (xaS cu))) hx hb hts wX6_loose_c6 hown hK hP 0 (xq_c (by decide)) xe_X rfl 3 (by decide) wX6_loose_f33 rfl rfl dX6_loose_62 ?_
          refine xr_get (D := (dC, dI)) (C := RX4) (T := TX4) (N := 8) (v := .ref (ad (xaD0 cu))) hx hb hts wX6_loose_c4 hown hK hP (xaS cu) (xq_S hcu) (xe_S rfl) rfl 6 (by decide) wX6_loose_f65 rfl rfl dX6_loose_65 ?_
          refine lv_iconst (v := (3 : Int32)) hx hb dX6_loose_68 (by decide) ?_
          refine xr_aald (k := 3) (b := ad (xaD cu 3)) hx hb hK hP (xaD0 cu) 4 (xq_D0 hcu) xe_D0 rfl rfl rfl (x_in _ _ (by decide)) rfl dX6_loose_69 ?_
          refine lv_iload hx hb dX6_loose_70 (lv_at hl 0 rfl) ?_
          refine lv_lload_n hx hb dX6_loose_72 rfl (lv_at hl 2 rfl) ?_
          obtain ⟨g_12, h⟩ := h
          obtain ⟨st_13, est_13⟩ : ∃ z : Nat → StV, z = va_up st_11 cu (s_wdu (st_11 cu) 3 (r_9.toNatClampNeg) x1) := ⟨_, rfl⟩
          have h := h st_13 est_13
          refine xr_last (k := r_9.toNatClampNeg) (x := x1) (g := (xc ad ci st_13 ln sv kv_8 cu)) hx hb hK hP hAD hS (xaD cu 3) 1 (xq_D hcu (by decide)) (xe_D (by decide) rfl) rfl rfl g_12 dX6_loose_73 (xg_du (by decide) rfl est_13.symm) (fun H locs hP hS => ?_)
          refine lv_aload_n hx hb dX6_loose_74 rfl (lv_at hl 1 rfl) ?_
          refine xr_get (D := (dC, dI)) (C := RX6) (T := TX6) (N := 4) (v := .ref (ad (xaS cu))) hx hb hts wX6_loose_c6 hown hK hP 0 (xq_c (by decide)) xe_X rfl 3 (by decide) wX6_loose_f33 rfl rfl dX6_loose_75 ?_
          refine lv_iload hx hb dX6_loose_78 (lv_at hl 0 rfl) ?_
          refine lv_lload_n hx hb dX6_loose_80 rfl (lv_at hl 3 rfl) ?_
          have hP9 := x_e1 cu hP
          refine va_callv (va_runV (As := [.int r_9, .long x3]) (rest := []) ⟨hx, hb, C0.2.2.1, hown, hts⟩ (qX4_setTick l dC dI ad ci A ns hAD st_13 (st_13 cu) ln sv kv_8 cu cu hcu r_9 x3 _ h) (cwV 2 hts gX6_loose_X4_setTick rfl rfl rfl (by decide +kernel) ⟨Nat.le_of_ble_eq_true rfl, Nat.le_of_ble_eq_true rfl⟩) ⟨xr_blind, xr_recv (r := (RX4, TX4, 8)) hK hP (xaS cu) (xq_S hcu) (xe_S rfl) rfl, xr_pre hP9 hK⟩ rfl rfl hl.1 rfl (lv_room (Nat.le_of_ble_eq_true rfl)) dX6_loose_81 ⟨Nat.le_of_ble_eq_true rfl, Nat.le_of_ble_eq_true rfl⟩) hS (fun _ _ h => h) (fun _ h => h) (fun v_14 t9 H locs ht hvm h hB _ _ hS => ?_)
          refine W.cs (cells' := 18) (slots' := 3323) rfl rfl ?_
          have hP := x_th ht hB
          have hP : va_P (dC, dI) vwCl (xw (xn ns) ad (xc ad ci (va_up st_13 cu v_14) ln sv kv_8 cu)) H := by exact hP
          obtain ⟨st_15, est_15⟩ : ∃ z : Nat → StV, z = va_up st_13 cu v_14 := ⟨_, rfl⟩
          have h := h st_15 est_15
          rw [← est_15] at hP
          refine lv_iload hx hb dX6_loose_84 (lv_at hl 0 rfl) ?_
          refine lv_i2l hx hb dX6_loose_86 rfl ?_
          exact W.lret (v := (r_9.toInt64)) hx hb hr (fun t ht hW => ⟨⟨(r_9.toInt64), (st_15, kv_8), rfl, h, ⟨ad, ns, hns, rfl, hAD, hcu, x_ht ht hP⟩⟩, hS.F ht⟩) hS.2.2 dX6_loose_87
        · have h := h.2 c_6
          refine lv_ldc2 (v := (-2000000003 : Int64)) hx hb hown (hts _ wX6_loose_k47) dX6_loose_34 ?_
          refine W.widen (k := 18) (n := 3323) (Nat.le_of_ble_eq_true rfl) (Nat.le_of_ble_eq_true rfl) ?_
          exact W.lret (v := (-2000000003 : Int64)) hx hb hr (fun t ht hW => ⟨⟨(-2000000003 : Int64), (st, kv), rfl, h, ⟨ad, ns, hns, rfl, hAD, hcu, x_ht ht hP⟩⟩, hS.F ht⟩) hS.2.2 dX6_loose_37
      · have h := h.2 c_4
        refine lv_ldc2 (v := (-2000000001 : Int64)) hx hb hown (hts _ wX6_loose_k41) dX6_loose_20 ?_
        refine W.widen (k := 18) (n := 3323) (Nat.le_of_ble_eq_true rfl) (Nat.le_of_ble_eq_true rfl) ?_
        exact W.lret (v := (-2000000001 : Int64)) hx hb hr (fun t ht hW => ⟨⟨(-2000000001 : Int64), (st, kv), rfl, h, ⟨ad, ns, hns, rfl, hAD, hcu, x_ht ht hP⟩⟩, hS.F ht⟩) hS.2.2 dX6_loose_23
abbrev rmX6_chained : Room := { frames := 3, cells := 18, slots := 3323, locals := 83 }
theorem wX6_chained_k41 : Cond.constantLong RX6 41 (-2000000001) ∈ wsX6_chained := by decide +kernel
theorem wX6_chained_k76 : Cond.constantLong RX6 76 (1125899906842624) ∈ wsX6_chained := by decide +kernel
theorem wX6_chained_c4 : ∀ w ∈ u_ws RX4 TX4 8, w ∈ wsX6_chained := by decide +kernel
theorem wX6_chained_f65 : Cond.fieldLink RX6 65 "DueWheels$State" "dues" "[[J" ∈ wsX6_chained := by decide +kernel
theorem wX6_chained_c6 : ∀ w ∈ u_ws RX6 TX6 4, w ∈ wsX6_chained := by decide +kernel
theorem wX6_chained_f33 : Cond.fieldLink RX6 33 "DueWheels" "state" "LDueWheels$State;" ∈ wsX6_chained := by decide +kernel
theorem wX6_chained_f10 : Cond.fieldLink RX6 10 "DueWheels" "kept" "LDueWheels$Kept;" ∈ wsX6_chained := by decide +kernel
theorem wX6_chained_k47 : Cond.constantLong RX6 47 (-2000000003) ∈ wsX6_chained := by decide +kernel
def PX6_chained  (st : Nat → StV) (kv : KvV) (cu : Nat) (x1 : Int32) (x2 : Int64) (x4 : Int64) (x6 : Int32) (post : Int64 → (Nat → StV) → KvV → Prop) : Prop :=
  (PX4_isDue (st cu) x1 (fun (r_1 : Int32) => ((r_1 = 0 → post (-2000000001 : Int64) st kv) ∧ (¬ r_1 = 0 → (PX6_isSpan x2 (fun (r_3 : Int32) => ((r_3 = 0 → post (-2000000001 : Int64) st kv) ∧ (¬ r_3 = 0 → ((x4 < (0 : Int64) → post (-2000000001 : Int64) st kv) ∧ (¬ x4 < (0 : Int64) → ((x4 ≤ (1125899906842624 : Int64) → (PX4_isFull (st cu) (fun (r_7 : Int32) => ((r_7 = 0 → (PX1_keep cu st kv (fun (st_9 : Nat → StV) (kv_10 : KvV) => (PX4_open (st_9 cu) (3 : Int32) x6 (fun (r_11 : Int32) (v_12 : StV) => ∀ st_13 : Nat → StV, st_13 = va_up st_9 cu v_12 → (vp_in r_11 200 ∧ (∀ st_15 : Nat → StV, st_15 = va_up st_13 cu (s_wdu (st_13 cu) 6 (r_11.toNatClampNeg) (x1.toInt64)) → (vp_in r_11 200 ∧ (∀ st_17 : Nat → StV, st_17 = va_up st_15 cu (s_wdu (st_15 cu) 9 (r_11.toNatClampNeg) x2) → (vp_in r_11 200 ∧ (∀ st_19 : Nat → StV, st_19 = va_up st_17 cu (s_wdu (st_17 cu) 10 (r_11.toNatClampNeg) x4) → post (r_11.toInt64) st_19 kv_10))))))))))) ∧ (¬ r_7 = 0 → post (-2000000003 : Int64) st kv))))) ∧ (¬ x4 ≤ (1125899906842624 : Int64) → post (-2000000001 : Int64) st kv))))))))))))
set_option maxHeartbeats 4000000 in
set_option maxRecDepth 100000 in
theorem qX6_chained (l : Launch) (dC : Nat → ClassId) (dI : Nat → Nat → Nat) (ci : Nat → ClassId) (A : Nat → Prop) (a0 : Nat) (st : Nat → StV) (ln : Nat → LnV) (sv : SvV) (kv : KvV) (cu : Nat) (x1 : Int32) (x2 : Int64) (x4 : Int64) (x6 : Int32) (post : Int64 → (Nat → StV) → KvV → Prop) (h : PX6_chained st kv cu x1 x2 x4 x6 post) : Met l yX6_chained wsX6_chained rmX6_chained (va_Pc [.ref a0, .int x1, .long x2, .long x4, .int x6] (xPre (dC, dI) ci A (xB (dC, dI) ci A a0 st ln sv kv cu))) (va_Ql (fun r9 (u : (Nat → StV) × KvV) => post r9 (u.1) (u.2)) (fun u t => xB (dC, dI) ci A a0 (u.1) ln sv (u.2) cu t.heap) A) 18 3323 A := by
  refine Met.ofW (cc := cX6_chained) (maxL := 8) (ret := (some .long)) (by decide) rfl ?_
  intro p e s m args below meth c s₁ B hml hv
  obtain ⟨eargs, hP, hK, hN, hA⟩ := hv
  obtain ⟨ad, ns, hns, h0, hAD, hcu, hP⟩ := hP
  subst h0
  have C0 : xC p s m args meth c cX6_chained 8 (some .long) RX6 wsX6_chained (dC, dI) (xT ci) := ⟨B.exec, B.bytes, hml, B.returns, B.notSynchronized, findClass_of_methodNamed B.named, atoms_spec (ws := wsX6_chained) B.pre, hK⟩
  obtain ⟨hx, hb, -, hr, hlocks, hown, hts, -⟩ := id C0
  have hS : va_S A s.heap s.heap [] := va_S.rf
  have hl := lv_entry ([.ref (ad 0), .int x1, .long x2, .long x4, .int x6]) (n := 8) (Nat.le_of_ble_eq_true rfl)
  have ef : entryFrame m args 8 = entryFrame m ([.ref (ad 0), .int x1, .long x2, .long x4, .int x6] : List Value).toArray 8 := by rw [eargs]
  rw [ef, lg_entry_eq]
  generalize (lg_sl ([.ref (ad 0), .int x1, .long x2, .long x4, .int x6]) ++ List.replicate (8 - (lg_sl ([.ref (ad 0), .int x1, .long x2, .long x4, .int x6])).length) Slot.unset).toArray = ls at hl ⊢
  have hl : lv_has ls 8 [(0, .ref (ad 0)), (1, .int x1), (2, .long x2), (4, .long x4), (6, .int x6)] := hl
  have hP : va_P (dC, dI) vwCl (xw (xn ns) ad (xc ad ci st ln sv kv cu)) s.heap := hP
  unfold PX6_chained at h
  refine lv_aload_n hx hb dX6_chained_0 rfl (lv_at hl 0 rfl) ?_
  refine xr_get (D := (dC, dI)) (C := RX6) (T := TX6) (N := 4) (v := .ref (ad (xaS cu))) hx hb hts wX6_chained_c6 hown hK hP 0 (xq_c (by decide)) xe_X rfl 3 (by decide) wX6_chained_f33 rfl rfl dX6_chained_1 ?_
  refine lv_iload_n hx hb dX6_chained_4 rfl (lv_at hl 1 rfl) ?_
  have hP9 := x_e1 cu hP
  refine va_calli (va_runV (As := [.int x1]) (rest := []) ⟨hx, hb, C0.2.2.1, hown, hts⟩ (qX4_isDue l dC dI ad ci A ns hAD st (st cu) ln sv kv cu cu hcu x1 _ h) (cwV 1 hts gX6_chained_X4_isDue rfl rfl rfl (by decide +kernel) ⟨Nat.le_of_ble_eq_true rfl, Nat.le_of_ble_eq_true rfl⟩) ⟨xr_blind, xr_recv (r := (RX4, TX4, 8)) hK hP (xaS cu) (xq_S hcu) (xe_S rfl) rfl, xr_pre hP9 hK⟩ rfl rfl hl.1 rfl (lv_room (Nat.le_of_ble_eq_true rfl)) dX6_chained_5 ⟨Nat.le_of_ble_eq_true rfl, Nat.le_of_ble_eq_true rfl⟩) hS (fun _ _ h => h) (fun _ h => h) (fun r_1 _ t9 H locs ht hvm h hB _ _ hS => ?_)
  refine W.cs (cells' := 0) (slots' := 0) rfl rfl ?_
  have hP := x_th ht hB
  have hP : va_P (dC, dI) vwCl (xw (xn ns) ad (xc ad ci st ln sv kv cu)) H := by simp only [x_eta] at hP; exact hP
  refine lv_if_eq (tgt := 34) hx hb dX6_chained_8 (by decide) (fun c_2 => ?_) (fun c_2 => ?_)
  · have h := h.1 c_2
    refine lv_ldc2 (v := (-2000000001 : Int64)) hx hb hown (hts _ wX6_chained_k41) dX6_chained_34 ?_
    refine W.widen (k := 18) (n := 3323) (Nat.le_of_ble_eq_true rfl) (Nat.le_of_ble_eq_true rfl) ?_
    exact W.lret (v := (-2000000001 : Int64)) hx hb hr (fun t ht hW => ⟨⟨(-2000000001 : Int64), (st, kv), rfl, h, ⟨ad, ns, hns, rfl, hAD, hcu, x_ht ht hP⟩⟩, hS.F ht⟩) hS.2.2 dX6_chained_37
  · have h := h.2 c_2
    refine lv_lload_n hx hb dX6_chained_11 rfl (lv_at hl 2 rfl) ?_
    refine va_calli (va_runS (As := [.long x2]) (rest := []) ⟨hx, hb, C0.2.2.1, hown, hts⟩ (qX6_isSpan l dC dI (xn ns) ad (xc ad ci st ln sv kv cu) (xT ci) A x2 _ h) (va_cwS 1 hts gX6_chained_X6_isSpan rfl rfl rfl (by decide +kernel) ⟨Nat.le_of_ble_eq_true rfl, Nat.le_of_ble_eq_true rfl⟩) ⟨xr_blind, xr_pre hP hK⟩ rfl rfl hl.1 rfl (lv_room (Nat.le_of_ble_eq_true rfl)) dX6_chained_12 ⟨Nat.le_of_ble_eq_true rfl, Nat.le_of_ble_eq_true rfl⟩) hS (fun _ _ h => h) (fun _ h => h) (fun r_3 _ t9 H locs ht hvm h hB _ _ hS => ?_)
    refine W.cs (cells' := 0) (slots' := 0) rfl rfl ?_
    have hP := x_th ht hB
    have hP : va_P (dC, dI) vwCl (xw (xn ns) ad (xc ad ci st ln sv kv cu)) H := hP
    refine lv_if_eq (tgt := 34) hx hb dX6_chained_15 (by decide) (fun c_4 => ?_) (fun c_4 => ?_)
    · have h := h.1 c_4
      refine lv_ldc2 (v := (-2000000001 : Int64)) hx hb hown (hts _ wX6_chained_k41) dX6_chained_34 ?_
      refine W.widen (k := 18) (n := 3323) (Nat.le_of_ble_eq_true rfl) (Nat.le_of_ble_eq_true rfl) ?_
      exact W.lret (v := (-2000000001 : Int64)) hx hb hr (fun t ht hW => ⟨⟨(-2000000001 : Int64), (st, kv), rfl, h, ⟨ad, ns, hns, rfl, hAD, hcu, x_ht ht hP⟩⟩, hS.F ht⟩) hS.2.2 dX6_chained_37
    · have h := h.2 c_4
      refine lv_lload hx hb dX6_chained_18 (lv_at hl 3 rfl) ?_
      refine lv_lconst (v := (0 : Int64)) hx hb dX6_chained_20 (by decide) ?_
      refine xr_if_lcmp_lt (tgt := 34) hx hb dX6_chained_21 dX6_chained_22 (by decide) (fun c_5 => ?_) (fun c_5 => ?_)
      · have h := h.1 c_5
        refine lv_ldc2 (v := (-2000000001 : Int64)) hx hb hown (hts _ wX6_chained_k41) dX6_chained_34 ?_
        refine W.widen (k := 18) (n := 3323) (Nat.le_of_ble_eq_true rfl) (Nat.le_of_ble_eq_true rfl) ?_
        exact W.lret (v := (-2000000001 : Int64)) hx hb hr (fun t ht hW => ⟨⟨(-2000000001 : Int64), (st, kv), rfl, h, ⟨ad, ns, hns, rfl, hAD, hcu, x_ht ht hP⟩⟩, hS.F ht⟩) hS.2.2 dX6_chained_37
      · have h := h.2 c_5
        refine lv_lload hx hb dX6_chained_25 (lv_at hl 3 rfl) ?_
        refine lv_ldc2 (v := (1125899906842624 : Int64)) hx hb hown (hts _ wX6_chained_k76) dX6_chained_27 ?_
        refine xr_if_lcmp_le (tgt := 38) hx hb dX6_chained_30 dX6_chained_31 (by decide) (fun c_6 => ?_) (fun c_6 => ?_)
        · have h := h.1 c_6
          refine lv_aload_n hx hb dX6_chained_38 rfl (lv_at hl 0 rfl) ?_
          refine xr_get (D := (dC, dI)) (C := RX6) (T := TX6) (N := 4) (v := .ref (ad (xaS cu))) hx hb hts wX6_chained_c6 hown hK hP 0 (xq_c (by decide)) xe_X rfl 3 (by decide) wX6_chained_f33 rfl rfl dX6_chained_39 ?_
          have hP9 := x_e1 cu hP
          refine va_calli (va_runV (As := []) (rest := []) ⟨hx, hb, C0.2.2.1, hown, hts⟩ (qX4_isFull l dC dI ad ci A ns hAD st (st cu) ln sv kv cu cu hcu  _ h) (cwV 0 hts gX6_chained_X4_isFull rfl rfl rfl (by decide +kernel) ⟨Nat.le_of_ble_eq_true rfl, Nat.le_of_ble_eq_true rfl⟩) ⟨xr_blind, xr_recv (r := (RX4, TX4, 8)) hK hP (xaS cu) (xq_S hcu) (xe_S rfl) rfl, xr_pre hP9 hK⟩ rfl rfl hl.1 rfl (lv_room (Nat.le_of_ble_eq_true rfl)) dX6_chained_42 ⟨Nat.le_of_ble_eq_true rfl, Nat.le_of_ble_eq_true rfl⟩) hS (fun _ _ h => h) (fun _ h => h) (fun r_7 _ t9 H locs ht hvm h hB _ _ hS => ?_)
          refine W.cs (cells' := 0) (slots' := 0) rfl rfl ?_
          have hP := x_th ht hB
          have hP : va_P (dC, dI) vwCl (xw (xn ns) ad (xc ad ci st ln sv kv cu)) H := by simp only [x_eta] at hP; exact hP
          refine lv_if_eq (tgt := 52) hx hb dX6_chained_45 (by decide) (fun c_8 => ?_) (fun c_8 => ?_)
          · have h := h.1 c_8
            refine lv_aload_n hx hb dX6_chained_52 rfl (lv_at hl 0 rfl) ?_
            refine xr_get (D := (dC, dI)) (C := RX6) (T := TX6) (N := 4) (v := .ref (ad 1)) hx hb hts wX6_chained_c6 hown hK hP 0 (xq_c (by decide)) xe_X rfl 0 (by decide) wX6_chained_f10 rfl rfl dX6_chained_53 ?_
            refine lv_aload_n hx hb dX6_chained_56 rfl (lv_at hl 0 rfl) ?_
            refine xr_get (D := (dC, dI)) (C := RX6) (T := TX6) (N := 4) (v := .ref (ad (xaS cu))) hx hb hts wX6_chained_c6 hown hK hP 0 (xq_c (by decide)) xe_X rfl 3 (by decide) wX6_chained_f33 rfl rfl dX6_chained_57 ?_
            refine va_callv (va_runV (As := [.ref (ad (xaS cu))]) (rest := []) ⟨hx, hb, C0.2.2.1, hown, hts⟩ (qX1_keep l dC dI ad ci A ns hAD st ln sv kv cu cu hcu hcu hns  _ h) (cwV 1 hts gX6_chained_X1_keep rfl rfl rfl (by decide +kernel) ⟨Nat.le_of_ble_eq_true rfl, Nat.le_of_ble_eq_true rfl⟩) ⟨xk_blind, xr_recv (r := (RX1, TX1, 3)) hK hP 1 (xq_c (by decide)) xe_K rfl, xk_pre hP hK hN (fun q hq => hA q (Nat.le_trans hS.1 hq))⟩ rfl rfl hl.1 rfl (lv_room (Nat.le_of_ble_eq_true rfl)) dX6_chained_60 ⟨Nat.le_of_ble_eq_true rfl, Nat.le_of_ble_eq_true rfl⟩) hS (fun _ _ h => h) (fun _ h => h) (fun u9 t9 H locs ht hvm h hB _ _ hS => ?_)
            refine W.cs (cells' := 18) (slots' := 3323) rfl rfl ?_
            obtain ⟨st_9, kv_10⟩ := u9
            obtain ⟨ad, ns, hns, h0, hAD, hcu, hP⟩ := xB_th ht hB
            rw [← h0] at hl ⊢
            have hns : k_ns kv_10 = ns := hns
            have hP : va_P (dC, dI) vwCl (xw (xn ns) ad (xc ad ci st_9 ln sv kv_10 cu)) H := hP
            refine lv_aload_n hx hb dX6_chained_63 rfl (lv_at hl 0 rfl) ?_
            refine xr_get (D := (dC, dI)) (C := RX6) (T := TX6) (N := 4) (v := .ref (ad (xaS cu))) hx hb hts wX6_chained_c6 hown hK hP 0 (xq_c (by decide)) xe_X rfl 3 (by decide) wX6_chained_f33 rfl rfl dX6_chained_64 ?_
            refine lv_iconst (v := (3 : Int32)) hx hb dX6_chained_67 (by decide) ?_
            refine lv_iload hx hb dX6_chained_68 (lv_at hl 4 rfl) ?_
            have hP9 := x_e1 cu hP
            refine va_calli (va_runV (As := [.int (3 : Int32), .int x6]) (rest := []) ⟨hx, hb, C0.2.2.1, hown, hts⟩ (qX4_open l dC dI ad ci A ns hAD st_9 (st_9 cu) ln sv kv_10 cu cu hcu (3 : Int32) x6 _ h) (cwV 2 hts gX6_chained_X4_open rfl rfl rfl (by decide +kernel) ⟨Nat.le_of_ble_eq_true rfl, Nat.le_of_ble_eq_true rfl⟩) ⟨xr_blind, xr_recv (r := (RX4, TX4, 8)) hK hP (xaS cu) (xq_S hcu) (xe_S rfl) rfl, xr_pre hP9 hK⟩ rfl rfl hl.1 rfl (lv_room (Nat.le_of_ble_eq_true rfl)) dX6_chained_70 ⟨Nat.le_of_ble_eq_true rfl, Nat.le_of_ble_eq_true rfl⟩) hS (fun _ _ h => h) (fun _ h => h) (fun r_11 v_12 t9 H locs ht hvm h hB _ _ hS => ?_)
            refine W.cs (cells' := 18) (slots' := 3323) rfl rfl ?_
            have hP := x_th ht hB
            have hP : va_P (dC, dI) vwCl (xw (xn ns) ad (xc ad ci (va_up st_9 cu v_12) ln sv kv_10 cu)) H := by exact hP
            obtain ⟨st_13, est_13⟩ : ∃ z : Nat → StV, z = va_up st_9 cu v_12 := ⟨_, rfl⟩
            have h := h st_13 est_13
            rw [← est_13] at hP
            refine lv_istore (lv' := [(7, .int r_11), (0, .ref (ad 0)), (1, .int x1), (2, .long x2), (4, .long x4), (6, .int x6)]) hx hb dX6_chained_73 hl (by decide) rfl (fun ls hl => ?_)
            refine lv_aload_n hx hb dX6_chained_75 rfl (lv_at hl 1 rfl) ?_
            refine xr_get (D := (dC, dI)) (C := RX6) (T := TX6) (N := 4) (v := .ref (ad (xaS cu))) hx hb hts wX6_chained_c6 hown hK hP 0 (xq_c (by decide)) xe_X rfl 3 (by decide) wX6_chained_f33 rfl rfl dX6_chained_76 ?_
            refine xr_get (D := (dC, dI)) (C := RX4) (T := TX4) (N := 8) (v := .ref (ad (xaD0 cu))) hx hb hts wX6_chained_c4 hown hK hP (xaS cu) (xq_S hcu) (xe_S rfl) rfl 6 (by decide) wX6_chained_f65 rfl rfl dX6_chained_79 ?_
            refine lv_bipush (v := (6 : Int32)) hx hb dX6_chained_82 (by decide) ?_
            refine xr_aald (k := 6) (b := ad (xaD cu 6)) hx hb hK hP (xaD0 cu) 4 (xq_D0 hcu) xe_D0 rfl rfl rfl (x_in _ _ (by decide)) rfl dX6_chained_84 ?_
            refine lv_iload hx hb dX6_chained_85 (lv_at hl 0 rfl) ?_
            refine lv_iload_n hx hb dX6_chained_87 rfl (lv_at hl 2 rfl) ?_
            refine lv_i2l hx hb dX6_chained_88 rfl ?_
            obtain ⟨g_14, h⟩ := h
            obtain ⟨st_15, est_15⟩ : ∃ z : Nat → StV, z = va_up st_13 cu (s_wdu (st_13 cu) 6 (r_11.toNatClampNeg) (x1.toInt64)) := ⟨_, rfl⟩
            have h := h st_15 est_15
            refine xr_last (k := r_11.toNatClampNeg) (x := (x1.toInt64)) (g := (xc ad ci st_15 ln sv kv_10 cu)) hx hb hK hP hAD hS (xaD cu 6) 1 (xq_D hcu (by decide)) (xe_D (by decide) rfl) rfl rfl g_14 dX6_chained_89 (xg_du (by decide) rfl est_15.symm) (fun H locs hP hS => ?_)
            refine lv_aload_n hx hb dX6_chained_90 rfl (lv_at hl 1 rfl) ?_
            refine xr_get (D := (dC, dI)) (C := RX6) (T := TX6) (N := 4) (v := .ref (ad (xaS cu))) hx hb hts wX6_chained_c6 hown hK hP 0 (xq_c (by decide)) xe_X rfl 3 (by decide) wX6_chained_f33 rfl rfl dX6_chained_91 ?_
            refine xr_get (D := (dC, dI)) (C := RX4) (T := TX4) (N := 8) (v := .ref (ad (xaD0 cu))) hx hb hts wX6_chained_c4 hown hK hP (xaS cu) (xq_S hcu) (xe_S rfl) rfl 6 (by decide) wX6_chained_f65 rfl rfl dX6_chained_94 ?_
            refine lv_bipush (v := (9 : Int32)) hx hb dX6_chained_97 (by decide) ?_
            refine xr_aald (k := 9) (b := ad (xaD cu 9)) hx hb hK hP (xaD0 cu) 4 (xq_D0 hcu) xe_D0 rfl rfl rfl (x_in _ _ (by decide)) rfl dX6_chained_99 ?_
            refine lv_iload hx hb dX6_chained_100 (lv_at hl 0 rfl) ?_
            refine lv_lload_n hx hb dX6_chained_102 rfl (lv_at hl 3 rfl) ?_
            obtain ⟨g_16, h⟩ := h
            obtain ⟨st_17, est_17⟩ : ∃ z : Nat → StV, z = va_up st_15 cu (s_wdu (st_15 cu) 9 (r_11.toNatClampNeg) x2) := ⟨_, rfl⟩
            have h := h st_17 est_17
            refine xr_last (k := r_11.toNatClampNeg) (x := x2) (g := (xc ad ci st_17 ln sv kv_10 cu)) hx hb hK hP hAD hS (xaD cu 9) 1 (xq_D hcu (by decide)) (xe_D (by decide) rfl) rfl rfl g_16 dX6_chained_103 (xg_du (by decide) rfl est_17.symm) (fun H locs hP hS => ?_)
            refine lv_aload_n hx hb dX6_chained_104 rfl (lv_at hl 1 rfl) ?_
            refine xr_get (D := (dC, dI)) (C := RX6) (T := TX6) (N := 4) (v := .ref (ad (xaS cu))) hx hb hts wX6_chained_c6 hown hK hP 0 (xq_c (by decide)) xe_X rfl 3 (by decide) wX6_chained_f33 rfl rfl dX6_chained_105 ?_
            refine xr_get (D := (dC, dI)) (C := RX4) (T := TX4) (N := 8) (v := .ref (ad (xaD0 cu))) hx hb hts wX6_chained_c4 hown hK hP (xaS cu) (xq_S hcu) (xe_S rfl) rfl 6 (by decide) wX6_chained_f65 rfl rfl dX6_chained_108 ?_
            refine lv_bipush (v := (10 : Int32)) hx hb dX6_chained_111 (by decide) ?_
            refine xr_aald (k := 10) (b := ad (xaD cu 10)) hx hb hK hP (xaD0 cu) 4 (xq_D0 hcu) xe_D0 rfl rfl rfl (x_in _ _ (by decide)) rfl dX6_chained_113 ?_
            refine lv_iload hx hb dX6_chained_114 (lv_at hl 0 rfl) ?_
            refine lv_lload hx hb dX6_chained_116 (lv_at hl 4 rfl) ?_
            obtain ⟨g_18, h⟩ := h
            obtain ⟨st_19, est_19⟩ : ∃ z : Nat → StV, z = va_up st_17 cu (s_wdu (st_17 cu) 10 (r_11.toNatClampNeg) x4) := ⟨_, rfl⟩
            have h := h st_19 est_19
            refine xr_last (k := r_11.toNatClampNeg) (x := x4) (g := (xc ad ci st_19 ln sv kv_10 cu)) hx hb hK hP hAD hS (xaD cu 10) 1 (xq_D hcu (by decide)) (xe_D (by decide) rfl) rfl rfl g_18 dX6_chained_118 (xg_du (by decide) rfl est_19.symm) (fun H locs hP hS => ?_)
            refine lv_iload hx hb dX6_chained_119 (lv_at hl 0 rfl) ?_
            refine lv_i2l hx hb dX6_chained_121 rfl ?_
            exact W.lret (v := (r_11.toInt64)) hx hb hr (fun t ht hW => ⟨⟨(r_11.toInt64), (st_19, kv_10), rfl, h, ⟨ad, ns, hns, rfl, hAD, hcu, x_ht ht hP⟩⟩, hS.F ht⟩) hS.2.2 dX6_chained_122
          · have h := h.2 c_8
            refine lv_ldc2 (v := (-2000000003 : Int64)) hx hb hown (hts _ wX6_chained_k47) dX6_chained_48 ?_
            refine W.widen (k := 18) (n := 3323) (Nat.le_of_ble_eq_true rfl) (Nat.le_of_ble_eq_true rfl) ?_
            exact W.lret (v := (-2000000003 : Int64)) hx hb hr (fun t ht hW => ⟨⟨(-2000000003 : Int64), (st, kv), rfl, h, ⟨ad, ns, hns, rfl, hAD, hcu, x_ht ht hP⟩⟩, hS.F ht⟩) hS.2.2 dX6_chained_51
        · have h := h.2 c_6
          refine lv_ldc2 (v := (-2000000001 : Int64)) hx hb hown (hts _ wX6_chained_k41) dX6_chained_34 ?_
          refine W.widen (k := 18) (n := 3323) (Nat.le_of_ble_eq_true rfl) (Nat.le_of_ble_eq_true rfl) ?_
          exact W.lret (v := (-2000000001 : Int64)) hx hb hr (fun t ht hW => ⟨⟨(-2000000001 : Int64), (st, kv), rfl, h, ⟨ad, ns, hns, rfl, hAD, hcu, x_ht ht hP⟩⟩, hS.F ht⟩) hS.2.2 dX6_chained_37
abbrev rmX6_resting : Room := { frames := 4, cells := 18, slots := 3323, locals := 111 }
def PX6_resting  (st : Nat → StV) (kv : KvV) (cu : Nat) (x1 : Int64) (x3 : Int64) (x5 : Int32) (x6 : Int32) (post : Int64 → (Nat → StV) → KvV → Prop) : Prop :=
  (PX6_openRepeated st kv cu (4 : Int32) x1 x3 x5 x6 (fun (r_1 : Int64) (st_2 : Nat → StV) (kv_3 : KvV) => post r_1 st_2 kv_3))
set_option maxHeartbeats 4000000 in
set_option maxRecDepth 100000 in
theorem qX6_resting (l : Launch) (dC : Nat → ClassId) (dI : Nat → Nat → Nat) (ci : Nat → ClassId) (A : Nat → Prop) (a0 : Nat) (st : Nat → StV) (ln : Nat → LnV) (sv : SvV) (kv : KvV) (cu : Nat) (x1 : Int64) (x3 : Int64) (x5 : Int32) (x6 : Int32) (post : Int64 → (Nat → StV) → KvV → Prop) (h : PX6_resting st kv cu x1 x3 x5 x6 post) : Met l yX6_resting wsX6_resting rmX6_resting (va_Pc [.ref a0, .long x1, .long x3, .int x5, .int x6] (xPre (dC, dI) ci A (xB (dC, dI) ci A a0 st ln sv kv cu))) (va_Ql (fun r9 (u : (Nat → StV) × KvV) => post r9 (u.1) (u.2)) (fun u t => xB (dC, dI) ci A a0 (u.1) ln sv (u.2) cu t.heap) A) 18 3323 A := by
  refine Met.ofW (cc := cX6_resting) (maxL := 7) (ret := (some .long)) (by decide) rfl ?_
  intro p e s m args below meth c s₁ B hml hv
  obtain ⟨eargs, hP, hK, hN, hA⟩ := hv
  obtain ⟨ad, ns, hns, h0, hAD, hcu, hP⟩ := hP
  subst h0
  have C0 : xC p s m args meth c cX6_resting 7 (some .long) RX6 wsX6_resting (dC, dI) (xT ci) := ⟨B.exec, B.bytes, hml, B.returns, B.notSynchronized, findClass_of_methodNamed B.named, atoms_spec (ws := wsX6_resting) B.pre, hK⟩
  obtain ⟨hx, hb, -, hr, hlocks, hown, hts, -⟩ := id C0
  have hS : va_S A s.heap s.heap [] := va_S.rf
  have hl := lv_entry ([.ref (ad 0), .long x1, .long x3, .int x5, .int x6]) (n := 7) (Nat.le_of_ble_eq_true rfl)
  have ef : entryFrame m args 7 = entryFrame m ([.ref (ad 0), .long x1, .long x3, .int x5, .int x6] : List Value).toArray 7 := by rw [eargs]
  rw [ef, lg_entry_eq]
  generalize (lg_sl ([.ref (ad 0), .long x1, .long x3, .int x5, .int x6]) ++ List.replicate (7 - (lg_sl ([.ref (ad 0), .long x1, .long x3, .int x5, .int x6])).length) Slot.unset).toArray = ls at hl ⊢
  have hl : lv_has ls 7 [(0, .ref (ad 0)), (1, .long x1), (3, .long x3), (5, .int x5), (6, .int x6)] := hl
  have hP : va_P (dC, dI) vwCl (xw (xn ns) ad (xc ad ci st ln sv kv cu)) s.heap := hP
  unfold PX6_resting at h
  refine lv_aload_n hx hb dX6_resting_0 rfl (lv_at hl 0 rfl) ?_
  refine lv_iconst (v := (4 : Int32)) hx hb dX6_resting_1 (by decide) ?_
  refine lv_lload_n hx hb dX6_resting_2 rfl (lv_at hl 1 rfl) ?_
  refine lv_lload_n hx hb dX6_resting_3 rfl (lv_at hl 2 rfl) ?_
  refine lv_iload hx hb dX6_resting_4 (lv_at hl 3 rfl) ?_
  refine lv_iload hx hb dX6_resting_6 (lv_at hl 4 rfl) ?_
  refine va_calll (va_runV (As := [.int (4 : Int32), .long x1, .long x3, .int x5, .int x6]) (rest := []) ⟨hx, hb, C0.2.2.1, hown, hts⟩ (qX6_openRepeated l dC dI ci A (ad 0) st ln sv kv cu (4 : Int32) x1 x3 x5 x6 _ h) (cwV 5 hts gX6_resting_X6_openRepeated rfl rfl rfl (by decide +kernel) ⟨Nat.le_of_ble_eq_true rfl, Nat.le_of_ble_eq_true rfl⟩) ⟨xk_blind, xr_recv (r := (RX6, TX6, 4)) hK hP 0 (xq_c (by decide)) xe_X rfl, xk_pre ⟨ad, ns, hns, rfl, hAD, hcu, hP⟩ hK hN (fun q hq => hA q (Nat.le_trans hS.1 hq))⟩ rfl rfl hl.1 rfl (lv_room (Nat.le_of_ble_eq_true rfl)) dX6_resting_8 ⟨Nat.le_of_ble_eq_true rfl, Nat.le_of_ble_eq_true rfl⟩) hS (fun _ _ h => h) (fun _ h => h) (fun r_1 u9 t9 H locs ht hvm h hB _ _ hS => ?_)
  refine W.cs (cells' := 18) (slots' := 3323) rfl rfl ?_
  obtain ⟨st_2, kv_3⟩ := u9
  obtain ⟨ad, ns, hns, h0, hAD, hcu, hP⟩ := xB_th ht hB
  rw [← h0] at hl ⊢
  have hns : k_ns kv_3 = ns := hns
  have hP : va_P (dC, dI) vwCl (xw (xn ns) ad (xc ad ci st_2 ln sv kv_3 cu)) H := hP
  exact W.lret (v := r_1) hx hb hr (fun t ht hW => ⟨⟨r_1, (st_2, kv_3), rfl, h, ⟨ad, ns, hns, rfl, hAD, hcu, x_ht ht hP⟩⟩, hS.F ht⟩) hS.2.2 dX6_resting_11
abbrev rmX6_drop : Room := { frames := 3, cells := 18, slots := 3323, locals := 85 }
theorem wX6_drop_c6 : ∀ w ∈ u_ws RX6 TX6 4, w ∈ wsX6_drop := by decide +kernel
theorem wX6_drop_f33 : Cond.fieldLink RX6 33 "DueWheels" "state" "LDueWheels$State;" ∈ wsX6_drop := by decide +kernel
theorem wX6_drop_c4 : ∀ w ∈ u_ws RX4 TX4 8, w ∈ wsX6_drop := by decide +kernel
theorem wX6_drop_f65 : Cond.fieldLink RX6 65 "DueWheels$State" "dues" "[[J" ∈ wsX6_drop := by decide +kernel
theorem wX6_drop_f10 : Cond.fieldLink RX6 10 "DueWheels" "kept" "LDueWheels$Kept;" ∈ wsX6_drop := by decide +kernel
theorem wX6_drop_k41 : Cond.constantLong RX6 41 (-2000000001) ∈ wsX6_drop := by decide +kernel
def PX6_drop  (st : Nat → StV) (kv : KvV) (cu : Nat) (x1 : Int32) (post : Int64 → (Nat → StV) → KvV → Prop) : Prop :=
  (PX4_isDue (st cu) x1 (fun (r_1 : Int32) => ((r_1 = 0 → post (-2000000001 : Int64) st kv) ∧ (¬ r_1 = 0 → (PX1_keep cu st kv (fun (st_3 : Nat → StV) (kv_4 : KvV) => (vp_in x1 200 ∧ ∀ x2_6 : Int64, x2_6 = (s_du (st_3 cu) 1 (x1.toNatClampNeg)) → (PX4_tellDropped (st_3 cu) x1 (fun (v_7 : StV) => ∀ st_8 : Nat → StV, st_8 = va_up st_3 cu v_7 → (PX4_close (st_8 cu) x1 (fun (v_9 : StV) => ∀ st_10 : Nat → StV, st_10 = va_up st_8 cu v_9 → post x2_6 st_10 kv_4)))))))))))
set_option maxHeartbeats 4000000 in
set_option maxRecDepth 100000 in
theorem qX6_drop (l : Launch) (dC : Nat → ClassId) (dI : Nat → Nat → Nat) (ci : Nat → ClassId) (A : Nat → Prop) (a0 : Nat) (st : Nat → StV) (ln : Nat → LnV) (sv : SvV) (kv : KvV) (cu : Nat) (x1 : Int32) (post : Int64 → (Nat → StV) → KvV → Prop) (h : PX6_drop st kv cu x1 post) : Met l yX6_drop wsX6_drop rmX6_drop (va_Pc [.ref a0, .int x1] (xPre (dC, dI) ci A (xB (dC, dI) ci A a0 st ln sv kv cu))) (va_Ql (fun r9 (u : (Nat → StV) × KvV) => post r9 (u.1) (u.2)) (fun u t => xB (dC, dI) ci A a0 (u.1) ln sv (u.2) cu t.heap) A) 18 3323 A := by
  refine Met.ofW (cc := cX6_drop) (maxL := 4) (ret := (some .long)) (by decide) rfl ?_
  intro p e s m args below meth c s₁ B hml hv
  obtain ⟨eargs, hP, hK, hN, hA⟩ := hv
  obtain ⟨ad, ns, hns, h0, hAD, hcu, hP⟩ := hP
  subst h0
  have C0 : xC p s m args meth c cX6_drop 4 (some .long) RX6 wsX6_drop (dC, dI) (xT ci) := ⟨B.exec, B.bytes, hml, B.returns, B.notSynchronized, findClass_of_methodNamed B.named, atoms_spec (ws := wsX6_drop) B.pre, hK⟩
  obtain ⟨hx, hb, -, hr, hlocks, hown, hts, -⟩ := id C0
  have hS : va_S A s.heap s.heap [] := va_S.rf
  have hl := lv_entry ([.ref (ad 0), .int x1]) (n := 4) (Nat.le_of_ble_eq_true rfl)
  have ef : entryFrame m args 4 = entryFrame m ([.ref (ad 0), .int x1] : List Value).toArray 4 := by rw [eargs]
  rw [ef, lg_entry_eq]
  generalize (lg_sl ([.ref (ad 0), .int x1]) ++ List.replicate (4 - (lg_sl ([.ref (ad 0), .int x1])).length) Slot.unset).toArray = ls at hl ⊢
  have hl : lv_has ls 4 [(0, .ref (ad 0)), (1, .int x1)] := hl
  have hP : va_P (dC, dI) vwCl (xw (xn ns) ad (xc ad ci st ln sv kv cu)) s.heap := hP
  unfold PX6_drop at h
  refine lv_aload_n hx hb dX6_drop_0 rfl (lv_at hl 0 rfl) ?_
  refine xr_get (D := (dC, dI)) (C := RX6) (T := TX6) (N := 4) (v := .ref (ad (xaS cu))) hx hb hts wX6_drop_c6 hown hK hP 0 (xq_c (by decide)) xe_X rfl 3 (by decide) wX6_drop_f33 rfl rfl dX6_drop_1 ?_
  refine lv_iload_n hx hb dX6_drop_4 rfl (lv_at hl 1 rfl) ?_
  have hP9 := x_e1 cu hP
  refine va_calli (va_runV (As := [.int x1]) (rest := []) ⟨hx, hb, C0.2.2.1, hown, hts⟩ (qX4_isDue l dC dI ad ci A ns hAD st (st cu) ln sv kv cu cu hcu x1 _ h) (cwV 1 hts gX6_drop_X4_isDue rfl rfl rfl (by decide +kernel) ⟨Nat.le_of_ble_eq_true rfl, Nat.le_of_ble_eq_true rfl⟩) ⟨xr_blind, xr_recv (r := (RX4, TX4, 8)) hK hP (xaS cu) (xq_S hcu) (xe_S rfl) rfl, xr_pre hP9 hK⟩ rfl rfl hl.1 rfl (lv_room (Nat.le_of_ble_eq_true rfl)) dX6_drop_5 ⟨Nat.le_of_ble_eq_true rfl, Nat.le_of_ble_eq_true rfl⟩) hS (fun _ _ h => h) (fun _ h => h) (fun r_1 _ t9 H locs ht hvm h hB _ _ hS => ?_)
  refine W.cs (cells' := 0) (slots' := 0) rfl rfl ?_
  have hP := x_th ht hB
  have hP : va_P (dC, dI) vwCl (xw (xn ns) ad (xc ad ci st ln sv kv cu)) H := by simp only [x_eta] at hP; exact hP
  refine lv_if_ne (tgt := 15) hx hb dX6_drop_8 (by decide) (fun c_2 => ?_) (fun c_2 => ?_)
  · have h := h.2 c_2
    refine lv_aload_n hx hb dX6_drop_15 rfl (lv_at hl 0 rfl) ?_
    refine xr_get (D := (dC, dI)) (C := RX6) (T := TX6) (N := 4) (v := .ref (ad 1)) hx hb hts wX6_drop_c6 hown hK hP 0 (xq_c (by decide)) xe_X rfl 0 (by decide) wX6_drop_f10 rfl rfl dX6_drop_16 ?_
    refine lv_aload_n hx hb dX6_drop_19 rfl (lv_at hl 0 rfl) ?_
    refine xr_get (D := (dC, dI)) (C := RX6) (T := TX6) (N := 4) (v := .ref (ad (xaS cu))) hx hb hts wX6_drop_c6 hown hK hP 0 (xq_c (by decide)) xe_X rfl 3 (by decide) wX6_drop_f33 rfl rfl dX6_drop_20 ?_
    refine va_callv (va_runV (As := [.ref (ad (xaS cu))]) (rest := []) ⟨hx, hb, C0.2.2.1, hown, hts⟩ (qX1_keep l dC dI ad ci A ns hAD st ln sv kv cu cu hcu hcu hns  _ h) (cwV 1 hts gX6_drop_X1_keep rfl rfl rfl (by decide +kernel) ⟨Nat.le_of_ble_eq_true rfl, Nat.le_of_ble_eq_true rfl⟩) ⟨xk_blind, xr_recv (r := (RX1, TX1, 3)) hK hP 1 (xq_c (by decide)) xe_K rfl, xk_pre hP hK hN (fun q hq => hA q (Nat.le_trans hS.1 hq))⟩ rfl rfl hl.1 rfl (lv_room (Nat.le_of_ble_eq_true rfl)) dX6_drop_23 ⟨Nat.le_of_ble_eq_true rfl, Nat.le_of_ble_eq_true rfl⟩) hS (fun _ _ h => h) (fun _ h => h) (fun u9 t9 H locs ht hvm h hB _ _ hS => ?_)
    refine W.cs (cells' := 18) (slots' := 3323) rfl rfl ?_
    obtain ⟨st_3, kv_4⟩ := u9
    obtain ⟨ad, ns, hns, h0, hAD, hcu, hP⟩ := xB_th ht hB
    rw [← h0] at hl ⊢
    have hns : k_ns kv_4 = ns := hns
    have hP : va_P (dC, dI) vwCl (xw (xn ns) ad (xc ad ci st_3 ln sv kv_4 cu)) H := hP
    refine lv_aload_n hx hb dX6_drop_26 rfl (lv_at hl 0 rfl) ?_
    refine xr_get (D := (dC, dI)) (C := RX6) (T := TX6) (N := 4) (v := .ref (ad (xaS cu))) hx hb hts wX6_drop_c6 hown hK hP 0 (xq_c (by decide)) xe_X rfl 3 (by decide) wX6_drop_f33 rfl rfl dX6_drop_27 ?_
    refine xr_get (D := (dC, dI)) (C := RX4) (T := TX4) (N := 8) (v := .ref (ad (xaD0 cu))) hx hb hts wX6_drop_c4 hown hK hP (xaS cu) (xq_S hcu) (xe_S rfl) rfl 6 (by decide) wX6_drop_f65 rfl rfl dX6_drop_30 ?_
    refine lv_iconst (v := (1 : Int32)) hx hb dX6_drop_33 (by decide) ?_
    refine xr_aald (k := 1) (b := ad (xaD cu 1)) hx hb hK hP (xaD0 cu) 4 (xq_D0 hcu) xe_D0 rfl rfl rfl (x_in _ _ (by decide)) rfl dX6_drop_34 ?_
    refine lv_iload_n hx hb dX6_drop_35 rfl (lv_at hl 1 rfl) ?_
    obtain ⟨g_5, h⟩ := h
    refine xr_lald (k := x1.toNatClampNeg) hx hb hK hP (xaD cu 1) 1 (xq_D hcu (by decide)) (xe_D (by decide) rfl) rfl rfl g_5 dX6_drop_36 ?_
    refine lv_topl (fun x2_6 ex2_6 => ?_)
    have h := h x2_6 ex2_6
    refine lv_lstore_n (lv' := [(2, .long x2_6), (0, .ref (ad 0)), (1, .int x1)]) hx hb dX6_drop_37 rfl hl (by decide) rfl (fun ls hl => ?_)
    refine lv_aload_n hx hb dX6_drop_38 rfl (lv_at hl 1 rfl) ?_
    refine xr_get (D := (dC, dI)) (C := RX6) (T := TX6) (N := 4) (v := .ref (ad (xaS cu))) hx hb hts wX6_drop_c6 hown hK hP 0 (xq_c (by decide)) xe_X rfl 3 (by decide) wX6_drop_f33 rfl rfl dX6_drop_39 ?_
    refine lv_iload_n hx hb dX6_drop_42 rfl (lv_at hl 2 rfl) ?_
    have hP9 := x_e1 cu hP
    refine va_callv (va_runV (As := [.int x1]) (rest := []) ⟨hx, hb, C0.2.2.1, hown, hts⟩ (qX4_tellDropped l dC dI ad ci A ns hAD st_3 (st_3 cu) ln sv kv_4 cu cu hcu x1 _ h) (cwV 1 hts gX6_drop_X4_tellDropped rfl rfl rfl (by decide +kernel) ⟨Nat.le_of_ble_eq_true rfl, Nat.le_of_ble_eq_true rfl⟩) ⟨xr_blind, xr_recv (r := (RX4, TX4, 8)) hK hP (xaS cu) (xq_S hcu) (xe_S rfl) rfl, xr_pre hP9 hK⟩ rfl rfl hl.1 rfl (lv_room (Nat.le_of_ble_eq_true rfl)) dX6_drop_43 ⟨Nat.le_of_ble_eq_true rfl, Nat.le_of_ble_eq_true rfl⟩) hS (fun _ _ h => h) (fun _ h => h) (fun v_7 t9 H locs ht hvm h hB _ _ hS => ?_)
    refine W.cs (cells' := 18) (slots' := 3323) rfl rfl ?_
    have hP := x_th ht hB
    have hP : va_P (dC, dI) vwCl (xw (xn ns) ad (xc ad ci (va_up st_3 cu v_7) ln sv kv_4 cu)) H := by exact hP
    obtain ⟨st_8, est_8⟩ : ∃ z : Nat → StV, z = va_up st_3 cu v_7 := ⟨_, rfl⟩
    have h := h st_8 est_8
    rw [← est_8] at hP
    refine lv_aload_n hx hb dX6_drop_46 rfl (lv_at hl 1 rfl) ?_
    refine xr_get (D := (dC, dI)) (C := RX6) (T := TX6) (N := 4) (v := .ref (ad (xaS cu))) hx hb hts wX6_drop_c6 hown hK hP 0 (xq_c (by decide)) xe_X rfl 3 (by decide) wX6_drop_f33 rfl rfl dX6_drop_47 ?_
    refine lv_iload_n hx hb dX6_drop_50 rfl (lv_at hl 2 rfl) ?_
    have hP9 := x_e1 cu hP
    refine va_callv (va_runV (As := [.int x1]) (rest := []) ⟨hx, hb, C0.2.2.1, hown, hts⟩ (qX4_close l dC dI ad ci A ns hAD st_8 (st_8 cu) ln sv kv_4 cu cu hcu x1 _ h) (cwV 1 hts gX6_drop_X4_close rfl rfl rfl (by decide +kernel) ⟨Nat.le_of_ble_eq_true rfl, Nat.le_of_ble_eq_true rfl⟩) ⟨xr_blind, xr_recv (r := (RX4, TX4, 8)) hK hP (xaS cu) (xq_S hcu) (xe_S rfl) rfl, xr_pre hP9 hK⟩ rfl rfl hl.1 rfl (lv_room (Nat.le_of_ble_eq_true rfl)) dX6_drop_51 ⟨Nat.le_of_ble_eq_true rfl, Nat.le_of_ble_eq_true rfl⟩) hS (fun _ _ h => h) (fun _ h => h) (fun v_9 t9 H locs ht hvm h hB _ _ hS => ?_)
    refine W.cs (cells' := 18) (slots' := 3323) rfl rfl ?_
    have hP := x_th ht hB
    have hP : va_P (dC, dI) vwCl (xw (xn ns) ad (xc ad ci (va_up st_8 cu v_9) ln sv kv_4 cu)) H := by exact hP
    obtain ⟨st_10, est_10⟩ : ∃ z : Nat → StV, z = va_up st_8 cu v_9 := ⟨_, rfl⟩
    have h := h st_10 est_10
    rw [← est_10] at hP
    refine lv_lload_n hx hb dX6_drop_54 rfl (lv_at hl 0 rfl) ?_
    exact W.lret (v := x2_6) hx hb hr (fun t ht hW => ⟨⟨x2_6, (st_10, kv_4), rfl, h, ⟨ad, ns, hns, rfl, hAD, hcu, x_ht ht hP⟩⟩, hS.F ht⟩) hS.2.2 dX6_drop_55
  · have h := h.1 c_2
    refine lv_ldc2 (v := (-2000000001 : Int64)) hx hb hown (hts _ wX6_drop_k41) dX6_drop_11 ?_
    refine W.widen (k := 18) (n := 3323) (Nat.le_of_ble_eq_true rfl) (Nat.le_of_ble_eq_true rfl) ?_
    exact W.lret (v := (-2000000001 : Int64)) hx hb hr (fun t ht hW => ⟨⟨(-2000000001 : Int64), (st, kv), rfl, h, ⟨ad, ns, hns, rfl, hAD, hcu, x_ht ht hP⟩⟩, hS.F ht⟩) hS.2.2 dX6_drop_14
abbrev rmX6_shift : Room := { frames := 3, cells := 18, slots := 3323, locals := 83 }
theorem wX6_shift_k41 : Cond.constantLong RX6 41 (-2000000001) ∈ wsX6_shift := by decide +kernel
theorem wX6_shift_k85 : Cond.constantLong RX6 85 (-1125899906842624) ∈ wsX6_shift := by decide +kernel
theorem wX6_shift_k76 : Cond.constantLong RX6 76 (1125899906842624) ∈ wsX6_shift := by decide +kernel
theorem wX6_shift_k87 : Cond.constantLong RX6 87 (-2000000005) ∈ wsX6_shift := by decide +kernel
theorem wX6_shift_c6 : ∀ w ∈ u_ws RX6 TX6 4, w ∈ wsX6_shift := by decide +kernel
theorem wX6_shift_f33 : Cond.fieldLink RX6 33 "DueWheels" "state" "LDueWheels$State;" ∈ wsX6_shift := by decide +kernel
theorem wX6_shift_m91 : Cond.methodLink RX6 91 Lib.MathLoose.max_long.x ∈ wsX6_shift := by decide +kernel
theorem wX6_shift_m91a : Cond.static Lib.MathLoose.max_long.x ∈ wsX6_shift := by decide +kernel
theorem wX6_shift_mth : Cond.initialized "java/lang/Math" ∈ wsX6_shift := by decide +kernel
theorem wX6_shift_m91b : Cond.code Lib.MathLoose.max_long.x Lib.MathLoose.max_long.code 4 (some .long) ∈ wsX6_shift := by decide +kernel
theorem wX6_shift_c4 : ∀ w ∈ u_ws RX4 TX4 8, w ∈ wsX6_shift := by decide +kernel
theorem wX6_shift_f65 : Cond.fieldLink RX6 65 "DueWheels$State" "dues" "[[J" ∈ wsX6_shift := by decide +kernel
theorem wX6_shift_f10 : Cond.fieldLink RX6 10 "DueWheels" "kept" "LDueWheels$Kept;" ∈ wsX6_shift := by decide +kernel
theorem wX6_shift_k89 : Cond.constantLong RX6 89 (-2000000002) ∈ wsX6_shift := by decide +kernel
def PX6_shift  (st : Nat → StV) (kv : KvV) (cu : Nat) (x1 : Int32) (x2 : Int64) (post : Int64 → (Nat → StV) → KvV → Prop) : Prop :=
  (PX4_isDue (st cu) x1 (fun (r_1 : Int32) => ((r_1 = 0 → post (-2000000001 : Int64) st kv) ∧ (¬ r_1 = 0 → ((x2 < (-1125899906842624 : Int64) → post (-2000000001 : Int64) st kv) ∧ (¬ x2 < (-1125899906842624 : Int64) → ((x2 ≤ (1125899906842624 : Int64) → (vp_in x1 200 ∧ ∀ x4_6 : Int64, x4_6 = (s_du (st cu) 2 (x1.toNatClampNeg)) → ((x4_6 = (-2000000005 : Int64) → post (-2000000002 : Int64) st kv) ∧ (¬ x4_6 = (-2000000005 : Int64) → (PX6_isTickAhead st cu (x4_6 + x2) (fun (r_8 : Int32) => ((r_8 = 0 → post (-2000000001 : Int64) st kv) ∧ (¬ r_8 = 0 → (PX1_keep cu st kv (fun (st_10 : Nat → StV) (kv_11 : KvV) => (vp_in x1 200 ∧ ∀ x6_13 : Int64, x6_13 = (s_du (st_10 cu) 3 (x1.toNatClampNeg)) → ((x6_13 = (-2000000005 : Int64) → (PX4_setTick (st_10 cu) x1 (x4_6 + x2) (fun (v_15 : StV) => ∀ st_16 : Nat → StV, st_16 = va_up st_10 cu v_15 → (PX4_setPlace (st_16 cu) x1 (fun (v_17 : StV) => ∀ st_18 : Nat → StV, st_18 = va_up st_16 cu v_17 → post (x4_6 + x2) st_18 kv_11))))) ∧ (¬ x6_13 = (-2000000005 : Int64) → (vp_in x1 200 ∧ (∀ st_20 : Nat → StV, st_20 = va_up st_10 cu (s_wdu (st_10 cu) 3 (x1.toNatClampNeg) (if (0 : Int64) < (x6_13 + x2) then (x6_13 + x2) else (0 : Int64))) → (PX4_setTick (st_20 cu) x1 (x4_6 + x2) (fun (v_21 : StV) => ∀ st_22 : Nat → StV, st_22 = va_up st_20 cu v_21 → (PX4_setPlace (st_22 cu) x1 (fun (v_23 : StV) => ∀ st_24 : Nat → StV, st_24 = va_up st_22 cu v_23 → post (x4_6 + x2) st_24 kv_11))))))))))))))))))) ∧ (¬ x2 ≤ (1125899906842624 : Int64) → post (-2000000001 : Int64) st kv))))))))
set_option maxHeartbeats 4000000 in
set_option maxRecDepth 100000 in
theorem qX6_shift (l : Launch) (dC : Nat → ClassId) (dI : Nat → Nat → Nat) (ci : Nat → ClassId) (A : Nat → Prop) (a0 : Nat) (st : Nat → StV) (ln : Nat → LnV) (sv : SvV) (kv : KvV) (cu : Nat) (x1 : Int32) (x2 : Int64) (post : Int64 → (Nat → StV) → KvV → Prop) (h : PX6_shift st kv cu x1 x2 post) : Met l yX6_shift wsX6_shift rmX6_shift (va_Pc [.ref a0, .int x1, .long x2] (xPre (dC, dI) ci A (xB (dC, dI) ci A a0 st ln sv kv cu))) (va_Ql (fun r9 (u : (Nat → StV) × KvV) => post r9 (u.1) (u.2)) (fun u t => xB (dC, dI) ci A a0 (u.1) ln sv (u.2) cu t.heap) A) 18 3323 A := by
  refine Met.ofW (cc := cX6_shift) (maxL := 8) (ret := (some .long)) (by decide) rfl ?_
  intro p e s m args below meth c s₁ B hml hv
  obtain ⟨eargs, hP, hK, hN, hA⟩ := hv
  obtain ⟨ad, ns, hns, h0, hAD, hcu, hP⟩ := hP
  subst h0
  have C0 : xC p s m args meth c cX6_shift 8 (some .long) RX6 wsX6_shift (dC, dI) (xT ci) := ⟨B.exec, B.bytes, hml, B.returns, B.notSynchronized, findClass_of_methodNamed B.named, atoms_spec (ws := wsX6_shift) B.pre, hK⟩
  obtain ⟨hx, hb, -, hr, hlocks, hown, hts, -⟩ := id C0
  have hS : va_S A s.heap s.heap [] := va_S.rf
  have hl := lv_entry ([.ref (ad 0), .int x1, .long x2]) (n := 8) (Nat.le_of_ble_eq_true rfl)
  have ef : entryFrame m args 8 = entryFrame m ([.ref (ad 0), .int x1, .long x2] : List Value).toArray 8 := by rw [eargs]
  rw [ef, lg_entry_eq]
  generalize (lg_sl ([.ref (ad 0), .int x1, .long x2]) ++ List.replicate (8 - (lg_sl ([.ref (ad 0), .int x1, .long x2])).length) Slot.unset).toArray = ls at hl ⊢
  have hl : lv_has ls 8 [(0, .ref (ad 0)), (1, .int x1), (2, .long x2)] := hl
  have hP : va_P (dC, dI) vwCl (xw (xn ns) ad (xc ad ci st ln sv kv cu)) s.heap := hP
  unfold PX6_shift at h
  refine lv_aload_n hx hb dX6_shift_0 rfl (lv_at hl 0 rfl) ?_
  refine xr_get (D := (dC, dI)) (C := RX6) (T := TX6) (N := 4) (v := .ref (ad (xaS cu))) hx hb hts wX6_shift_c6 hown hK hP 0 (xq_c (by decide)) xe_X rfl 3 (by decide) wX6_shift_f33 rfl rfl dX6_shift_1 ?_
  refine lv_iload_n hx hb dX6_shift_4 rfl (lv_at hl 1 rfl) ?_
  have hP9 := x_e1 cu hP
  refine va_calli (va_runV (As := [.int x1]) (rest := []) ⟨hx, hb, C0.2.2.1, hown, hts⟩ (qX4_isDue l dC dI ad ci A ns hAD st (st cu) ln sv kv cu cu hcu x1 _ h) (cwV 1 hts gX6_shift_X4_isDue rfl rfl rfl (by decide +kernel) ⟨Nat.le_of_ble_eq_true rfl, Nat.le_of_ble_eq_true rfl⟩) ⟨xr_blind, xr_recv (r := (RX4, TX4, 8)) hK hP (xaS cu) (xq_S hcu) (xe_S rfl) rfl, xr_pre hP9 hK⟩ rfl rfl hl.1 rfl (lv_room (Nat.le_of_ble_eq_true rfl)) dX6_shift_5 ⟨Nat.le_of_ble_eq_true rfl, Nat.le_of_ble_eq_true rfl⟩) hS (fun _ _ h => h) (fun _ h => h) (fun r_1 _ t9 H locs ht hvm h hB _ _ hS => ?_)
  refine W.cs (cells' := 0) (slots' := 0) rfl rfl ?_
  have hP := x_th ht hB
  have hP : va_P (dC, dI) vwCl (xw (xn ns) ad (xc ad ci st ln sv kv cu)) H := by simp only [x_eta] at hP; exact hP
  refine lv_if_eq (tgt := 27) hx hb dX6_shift_8 (by decide) (fun c_2 => ?_) (fun c_2 => ?_)
  · have h := h.1 c_2
    refine lv_ldc2 (v := (-2000000001 : Int64)) hx hb hown (hts _ wX6_shift_k41) dX6_shift_27 ?_
    refine W.widen (k := 18) (n := 3323) (Nat.le_of_ble_eq_true rfl) (Nat.le_of_ble_eq_true rfl) ?_
    exact W.lret (v := (-2000000001 : Int64)) hx hb hr (fun t ht hW => ⟨⟨(-2000000001 : Int64), (st, kv), rfl, h, ⟨ad, ns, hns, rfl, hAD, hcu, x_ht ht hP⟩⟩, hS.F ht⟩) hS.2.2 dX6_shift_30
  · have h := h.2 c_2
    refine lv_lload_n hx hb dX6_shift_11 rfl (lv_at hl 2 rfl) ?_
    refine lv_ldc2 (v := (-1125899906842624 : Int64)) hx hb hown (hts _ wX6_shift_k85) dX6_shift_12 ?_
    refine xr_if_lcmp_lt (tgt := 27) hx hb dX6_shift_15 dX6_shift_16 (by decide) (fun c_3 => ?_) (fun c_3 => ?_)
    · have h := h.1 c_3
      refine lv_ldc2 (v := (-2000000001 : Int64)) hx hb hown (hts _ wX6_shift_k41) dX6_shift_27 ?_
      refine W.widen (k := 18) (n := 3323) (Nat.le_of_ble_eq_true rfl) (Nat.le_of_ble_eq_true rfl) ?_
      exact W.lret (v := (-2000000001 : Int64)) hx hb hr (fun t ht hW => ⟨⟨(-2000000001 : Int64), (st, kv), rfl, h, ⟨ad, ns, hns, rfl, hAD, hcu, x_ht ht hP⟩⟩, hS.F ht⟩) hS.2.2 dX6_shift_30
    · have h := h.2 c_3
      refine lv_lload_n hx hb dX6_shift_19 rfl (lv_at hl 2 rfl) ?_
      refine lv_ldc2 (v := (1125899906842624 : Int64)) hx hb hown (hts _ wX6_shift_k76) dX6_shift_20 ?_
      refine xr_if_lcmp_le (tgt := 31) hx hb dX6_shift_23 dX6_shift_24 (by decide) (fun c_4 => ?_) (fun c_4 => ?_)
      · have h := h.1 c_4
        refine lv_aload_n hx hb dX6_shift_31 rfl (lv_at hl 0 rfl) ?_
        refine xr_get (D := (dC, dI)) (C := RX6) (T := TX6) (N := 4) (v := .ref (ad (xaS cu))) hx hb hts wX6_shift_c6 hown hK hP 0 (xq_c (by decide)) xe_X rfl 3 (by decide) wX6_shift_f33 rfl rfl dX6_shift_32 ?_
        refine xr_get (D := (dC, dI)) (C := RX4) (T := TX4) (N := 8) (v := .ref (ad (xaD0 cu))) hx hb hts wX6_shift_c4 hown hK hP (xaS cu) (xq_S hcu) (xe_S rfl) rfl 6 (by decide) wX6_shift_f65 rfl rfl dX6_shift_35 ?_
        refine lv_iconst (v := (2 : Int32)) hx hb dX6_shift_38 (by decide) ?_
        refine xr_aald (k := 2) (b := ad (xaD cu 2)) hx hb hK hP (xaD0 cu) 4 (xq_D0 hcu) xe_D0 rfl rfl rfl (x_in _ _ (by decide)) rfl dX6_shift_39 ?_
        refine lv_iload_n hx hb dX6_shift_40 rfl (lv_at hl 1 rfl) ?_
        obtain ⟨g_5, h⟩ := h
        refine xr_lald (k := x1.toNatClampNeg) hx hb hK hP (xaD cu 2) 1 (xq_D hcu (by decide)) (xe_D (by decide) rfl) rfl rfl g_5 dX6_shift_41 ?_
        refine lv_topl (fun x4_6 ex4_6 => ?_)
        have h := h x4_6 ex4_6
        refine lv_lstore (lv' := [(4, .long x4_6), (0, .ref (ad 0)), (1, .int x1), (2, .long x2)]) hx hb dX6_shift_42 hl (by decide) rfl (fun ls hl => ?_)
        refine lv_lload hx hb dX6_shift_44 (lv_at hl 0 rfl) ?_
        refine lv_ldc2 (v := (-2000000005 : Int64)) hx hb hown (hts _ wX6_shift_k87) dX6_shift_46 ?_
        refine xr_if_lcmp_ne (tgt := 57) hx hb dX6_shift_49 dX6_shift_50 (by decide) (fun c_7 => ?_) (fun c_7 => ?_)
        · have h := h.2 c_7
          refine lv_aload_n hx hb dX6_shift_57 rfl (lv_at hl 1 rfl) ?_
          refine lv_lload hx hb dX6_shift_58 (lv_at hl 0 rfl) ?_
          refine lv_lload_n hx hb dX6_shift_60 rfl (lv_at hl 3 rfl) ?_
          refine lv_ladd hx hb dX6_shift_61 ?_
          refine va_calli (va_runV (As := [.long (x4_6 + x2)]) (rest := []) ⟨hx, hb, C0.2.2.1, hown, hts⟩ (qX6_isTickAhead l dC dI ci A (ad 0) st ln sv kv cu (x4_6 + x2) _ h) (cwV 1 hts gX6_shift_X6_isTickAhead rfl rfl rfl (by decide +kernel) ⟨Nat.le_of_ble_eq_true rfl, Nat.le_of_ble_eq_true rfl⟩) ⟨xk_blind, xr_recv (r := (RX6, TX6, 4)) hK hP 0 (xq_c (by decide)) xe_X rfl, xk_pre ⟨ad, ns, hns, rfl, hAD, hcu, hP⟩ hK hN (fun q hq => hA q (Nat.le_trans hS.1 hq))⟩ rfl rfl hl.1 rfl (lv_room (Nat.le_of_ble_eq_true rfl)) dX6_shift_62 ⟨Nat.le_of_ble_eq_true rfl, Nat.le_of_ble_eq_true rfl⟩) hS (fun _ _ h => h) (fun _ h => h) (fun r_8 _ t9 H locs ht hvm h hB _ _ hS => ?_)
          refine W.cs (cells' := 0) (slots' := 0) rfl rfl ?_
          obtain ⟨ad, ns, hns, h0, hAD, hcu, hP⟩ := xB_th ht hB
          rw [← h0] at hl ⊢
          have hns : k_ns kv = ns := hns
          have hP : va_P (dC, dI) vwCl (xw (xn ns) ad (xc ad ci st ln sv kv cu)) H := hP
          refine lv_if_ne (tgt := 72) hx hb dX6_shift_65 (by decide) (fun c_9 => ?_) (fun c_9 => ?_)
          · have h := h.2 c_9
            refine lv_aload_n hx hb dX6_shift_72 rfl (lv_at hl 1 rfl) ?_
            refine xr_get (D := (dC, dI)) (C := RX6) (T := TX6) (N := 4) (v := .ref (ad 1)) hx hb hts wX6_shift_c6 hown hK hP 0 (xq_c (by decide)) xe_X rfl 0 (by decide) wX6_shift_f10 rfl rfl dX6_shift_73 ?_
            refine lv_aload_n hx hb dX6_shift_76 rfl (lv_at hl 1 rfl) ?_
            refine xr_get (D := (dC, dI)) (C := RX6) (T := TX6) (N := 4) (v := .ref (ad (xaS cu))) hx hb hts wX6_shift_c6 hown hK hP 0 (xq_c (by decide)) xe_X rfl 3 (by decide) wX6_shift_f33 rfl rfl dX6_shift_77 ?_
            refine va_callv (va_runV (As := [.ref (ad (xaS cu))]) (rest := []) ⟨hx, hb, C0.2.2.1, hown, hts⟩ (qX1_keep l dC dI ad ci A ns hAD st ln sv kv cu cu hcu hcu hns  _ h) (cwV 1 hts gX6_shift_X1_keep rfl rfl rfl (by decide +kernel) ⟨Nat.le_of_ble_eq_true rfl, Nat.le_of_ble_eq_true rfl⟩) ⟨xk_blind, xr_recv (r := (RX1, TX1, 3)) hK hP 1 (xq_c (by decide)) xe_K rfl, xk_pre hP hK hN (fun q hq => hA q (Nat.le_trans hS.1 hq))⟩ rfl rfl hl.1 rfl (lv_room (Nat.le_of_ble_eq_true rfl)) dX6_shift_80 ⟨Nat.le_of_ble_eq_true rfl, Nat.le_of_ble_eq_true rfl⟩) hS (fun _ _ h => h) (fun _ h => h) (fun u9 t9 H locs ht hvm h hB _ _ hS => ?_)
            refine W.cs (cells' := 18) (slots' := 3323) rfl rfl ?_
            obtain ⟨st_10, kv_11⟩ := u9
            obtain ⟨ad, ns, hns, h0, hAD, hcu, hP⟩ := xB_th ht hB
            rw [← h0] at hl ⊢
            have hns : k_ns kv_11 = ns := hns
            have hP : va_P (dC, dI) vwCl (xw (xn ns) ad (xc ad ci st_10 ln sv kv_11 cu)) H := hP
            refine lv_aload_n hx hb dX6_shift_83 rfl (lv_at hl 1 rfl) ?_
            refine xr_get (D := (dC, dI)) (C := RX6) (T := TX6) (N := 4) (v := .ref (ad (xaS cu))) hx hb hts wX6_shift_c6 hown hK hP 0 (xq_c (by decide)) xe_X rfl 3 (by decide) wX6_shift_f33 rfl rfl dX6_shift_84 ?_
            refine xr_get (D := (dC, dI)) (C := RX4) (T := TX4) (N := 8) (v := .ref (ad (xaD0 cu))) hx hb hts wX6_shift_c4 hown hK hP (xaS cu) (xq_S hcu) (xe_S rfl) rfl 6 (by decide) wX6_shift_f65 rfl rfl dX6_shift_87 ?_
            refine lv_iconst (v := (3 : Int32)) hx hb dX6_shift_90 (by decide) ?_
            refine xr_aald (k := 3) (b := ad (xaD cu 3)) hx hb hK hP (xaD0 cu) 4 (xq_D0 hcu) xe_D0 rfl rfl rfl (x_in _ _ (by decide)) rfl dX6_shift_91 ?_
            refine lv_iload_n hx hb dX6_shift_92 rfl (lv_at hl 2 rfl) ?_
            obtain ⟨g_12, h⟩ := h
            refine xr_lald (k := x1.toNatClampNeg) hx hb hK hP (xaD cu 3) 1 (xq_D hcu (by decide)) (xe_D (by decide) rfl) rfl rfl g_12 dX6_shift_93 ?_
            refine lv_topl (fun x6_13 ex6_13 => ?_)
            have h := h x6_13 ex6_13
            refine lv_lstore (lv' := [(6, .long x6_13), (4, .long x4_6), (0, .ref (ad 0)), (1, .int x1), (2, .long x2)]) hx hb dX6_shift_94 hl (by decide) rfl (fun ls hl => ?_)
            refine lv_lload hx hb dX6_shift_96 (lv_at hl 0 rfl) ?_
            refine lv_ldc2 (v := (-2000000005 : Int64)) hx hb hown (hts _ wX6_shift_k87) dX6_shift_98 ?_
            refine xr_if_lcmp_eq (tgt := 124) hx hb dX6_shift_101 dX6_shift_102 (by decide) (fun c_14 => ?_) (fun c_14 => ?_)
            · have h := h.1 c_14
              refine lv_aload_n hx hb dX6_shift_124 rfl (lv_at hl 2 rfl) ?_
              refine xr_get (D := (dC, dI)) (C := RX6) (T := TX6) (N := 4) (v := .ref (ad (xaS cu))) hx hb hts wX6_shift_c6 hown hK hP 0 (xq_c (by decide)) xe_X rfl 3 (by decide) wX6_shift_f33 rfl rfl dX6_shift_125 ?_
              refine lv_iload_n hx hb dX6_shift_128 rfl (lv_at hl 3 rfl) ?_
              refine lv_lload hx hb dX6_shift_129 (lv_at hl 1 rfl) ?_
              refine lv_lload_n hx hb dX6_shift_131 rfl (lv_at hl 4 rfl) ?_
              refine lv_ladd hx hb dX6_shift_132 ?_
              have hP9 := x_e1 cu hP
              refine va_callv (va_runV (As := [.int x1, .long (x4_6 + x2)]) (rest := []) ⟨hx, hb, C0.2.2.1, hown, hts⟩ (qX4_setTick l dC dI ad ci A ns hAD st_10 (st_10 cu) ln sv kv_11 cu cu hcu x1 (x4_6 + x2) _ h) (cwV 2 hts gX6_shift_X4_setTick rfl rfl rfl (by decide +kernel) ⟨Nat.le_of_ble_eq_true rfl, Nat.le_of_ble_eq_true rfl⟩) ⟨xr_blind, xr_recv (r := (RX4, TX4, 8)) hK hP (xaS cu) (xq_S hcu) (xe_S rfl) rfl, xr_pre hP9 hK⟩ rfl rfl hl.1 rfl (lv_room (Nat.le_of_ble_eq_true rfl)) dX6_shift_133 ⟨Nat.le_of_ble_eq_true rfl, Nat.le_of_ble_eq_true rfl⟩) hS (fun _ _ h => h) (fun _ h => h) (fun v_15 t9 H locs ht hvm h hB _ _ hS => ?_)
              refine W.cs (cells' := 18) (slots' := 3323) rfl rfl ?_
              have hP := x_th ht hB
              have hP : va_P (dC, dI) vwCl (xw (xn ns) ad (xc ad ci (va_up st_10 cu v_15) ln sv kv_11 cu)) H := by exact hP
              obtain ⟨st_16, est_16⟩ : ∃ z : Nat → StV, z = va_up st_10 cu v_15 := ⟨_, rfl⟩
              have h := h st_16 est_16
              rw [← est_16] at hP
              refine lv_aload_n hx hb dX6_shift_136 rfl (lv_at hl 2 rfl) ?_
              refine xr_get (D := (dC, dI)) (C := RX6) (T := TX6) (N := 4) (v := .ref (ad (xaS cu))) hx hb hts wX6_shift_c6 hown hK hP 0 (xq_c (by decide)) xe_X rfl 3 (by decide) wX6_shift_f33 rfl rfl dX6_shift_137 ?_
              refine lv_iload_n hx hb dX6_shift_140 rfl (lv_at hl 3 rfl) ?_
              have hP9 := x_e1 cu hP
              refine va_callv (va_runV (As := [.int x1]) (rest := []) ⟨hx, hb, C0.2.2.1, hown, hts⟩ (qX4_setPlace l dC dI ad ci A ns hAD st_16 (st_16 cu) ln sv kv_11 cu cu hcu x1 _ h) (cwV 1 hts gX6_shift_X4_setPlace rfl rfl rfl (by decide +kernel) ⟨Nat.le_of_ble_eq_true rfl, Nat.le_of_ble_eq_true rfl⟩) ⟨xr_blind, xr_recv (r := (RX4, TX4, 8)) hK hP (xaS cu) (xq_S hcu) (xe_S rfl) rfl, xr_pre hP9 hK⟩ rfl rfl hl.1 rfl (lv_room (Nat.le_of_ble_eq_true rfl)) dX6_shift_141 ⟨Nat.le_of_ble_eq_true rfl, Nat.le_of_ble_eq_true rfl⟩) hS (fun _ _ h => h) (fun _ h => h) (fun v_17 t9 H locs ht hvm h hB _ _ hS => ?_)
              refine W.cs (cells' := 18) (slots' := 3323) rfl rfl ?_
              have hP := x_th ht hB
              have hP : va_P (dC, dI) vwCl (xw (xn ns) ad (xc ad ci (va_up st_16 cu v_17) ln sv kv_11 cu)) H := by exact hP
              obtain ⟨st_18, est_18⟩ : ∃ z : Nat → StV, z = va_up st_16 cu v_17 := ⟨_, rfl⟩
              have h := h st_18 est_18
              rw [← est_18] at hP
              refine lv_lload hx hb dX6_shift_144 (lv_at hl 1 rfl) ?_
              refine lv_lload_n hx hb dX6_shift_146 rfl (lv_at hl 4 rfl) ?_
              refine lv_ladd hx hb dX6_shift_147 ?_
              exact W.lret (v := (x4_6 + x2)) hx hb hr (fun t ht hW => ⟨⟨(x4_6 + x2), (st_18, kv_11), rfl, h, ⟨ad, ns, hns, rfl, hAD, hcu, x_ht ht hP⟩⟩, hS.F ht⟩) hS.2.2 dX6_shift_148
            · have h := h.2 c_14
              refine lv_aload_n hx hb dX6_shift_105 rfl (lv_at hl 2 rfl) ?_
              refine xr_get (D := (dC, dI)) (C := RX6) (T := TX6) (N := 4) (v := .ref (ad (xaS cu))) hx hb hts wX6_shift_c6 hown hK hP 0 (xq_c (by decide)) xe_X rfl 3 (by decide) wX6_shift_f33 rfl rfl dX6_shift_106 ?_
              refine xr_get (D := (dC, dI)) (C := RX4) (T := TX4) (N := 8) (v := .ref (ad (xaD0 cu))) hx hb hts wX6_shift_c4 hown hK hP (xaS cu) (xq_S hcu) (xe_S rfl) rfl 6 (by decide) wX6_shift_f65 rfl rfl dX6_shift_109 ?_
              refine lv_iconst (v := (3 : Int32)) hx hb dX6_shift_112 (by decide) ?_
              refine xr_aald (k := 3) (b := ad (xaD cu 3)) hx hb hK hP (xaD0 cu) 4 (xq_D0 hcu) xe_D0 rfl rfl rfl (x_in _ _ (by decide)) rfl dX6_shift_113 ?_
              refine lv_iload_n hx hb dX6_shift_114 rfl (lv_at hl 3 rfl) ?_
              refine lv_lload hx hb dX6_shift_115 (lv_at hl 0 rfl) ?_
              refine lv_lload_n hx hb dX6_shift_117 rfl (lv_at hl 4 rfl) ?_
              refine lv_ladd hx hb dX6_shift_118 ?_
              refine lv_lconst (v := (0 : Int64)) hx hb dX6_shift_119 (by decide) ?_
              refine va_mmax_long hx hb (by rw [C0.2.2.1]; exact hl.1.symm) hown (hts _ wX6_shift_m91) (hts _ wX6_shift_m91a) (hts _ wX6_shift_mth) (hts _ wX6_shift_m91b) (Nat.le_of_ble_eq_true rfl) (Nat.le_of_ble_eq_true rfl) (Nat.le_of_ble_eq_true rfl) (Nat.le_of_ble_eq_true rfl) dX6_shift_120 ?_
              obtain ⟨g_19, h⟩ := h
              obtain ⟨st_20, est_20⟩ : ∃ z : Nat → StV, z = va_up st_10 cu (s_wdu (st_10 cu) 3 (x1.toNatClampNeg) (if (0 : Int64) < (x6_13 + x2) then (x6_13 + x2) else (0 : Int64))) := ⟨_, rfl⟩
              have h := h st_20 est_20
              refine xr_last (k := x1.toNatClampNeg) (x := (if (0 : Int64) < (x6_13 + x2) then (x6_13 + x2) else (0 : Int64))) (g := (xc ad ci st_20 ln sv kv_11 cu)) hx hb hK hP hAD hS (xaD cu 3) 1 (xq_D hcu (by decide)) (xe_D (by decide) rfl) rfl rfl g_19 dX6_shift_123 (xg_du (by decide) rfl est_20.symm) (fun H locs hP hS => ?_)
              refine lv_aload_n hx hb dX6_shift_124 rfl (lv_at hl 2 rfl) ?_
              refine xr_get (D := (dC, dI)) (C := RX6) (T := TX6) (N := 4) (v := .ref (ad (xaS cu))) hx hb hts wX6_shift_c6 hown hK hP 0 (xq_c (by decide)) xe_X rfl 3 (by decide) wX6_shift_f33 rfl rfl dX6_shift_125 ?_
              refine lv_iload_n hx hb dX6_shift_128 rfl (lv_at hl 3 rfl) ?_
              refine lv_lload hx hb dX6_shift_129 (lv_at hl 1 rfl) ?_
              refine lv_lload_n hx hb dX6_shift_131 rfl (lv_at hl 4 rfl) ?_
              refine lv_ladd hx hb dX6_shift_132 ?_
              have hP9 := x_e1 cu hP
              refine va_callv (va_runV (As := [.int x1, .long (x4_6 + x2)]) (rest := []) ⟨hx, hb, C0.2.2.1, hown, hts⟩ (qX4_setTick l dC dI ad ci A ns hAD st_20 (st_20 cu) ln sv kv_11 cu cu hcu x1 (x4_6 + x2) _ h) (cwV 2 hts gX6_shift_X4_setTick rfl rfl rfl (by decide +kernel) ⟨Nat.le_of_ble_eq_true rfl, Nat.le_of_ble_eq_true rfl⟩) ⟨xr_blind, xr_recv (r := (RX4, TX4, 8)) hK hP (xaS cu) (xq_S hcu) (xe_S rfl) rfl, xr_pre hP9 hK⟩ rfl rfl hl.1 rfl (lv_room (Nat.le_of_ble_eq_true rfl)) dX6_shift_133 ⟨Nat.le_of_ble_eq_true rfl, Nat.le_of_ble_eq_true rfl⟩) hS (fun _ _ h => h) (fun _ h => h) (fun v_21 t9 H locs ht hvm h hB _ _ hS => ?_)
              refine W.cs (cells' := 18) (slots' := 3323) rfl rfl ?_
              have hP := x_th ht hB
              have hP : va_P (dC, dI) vwCl (xw (xn ns) ad (xc ad ci (va_up st_20 cu v_21) ln sv kv_11 cu)) H := by exact hP
              obtain ⟨st_22, est_22⟩ : ∃ z : Nat → StV, z = va_up st_20 cu v_21 := ⟨_, rfl⟩
              have h := h st_22 est_22
              rw [← est_22] at hP
              refine lv_aload_n hx hb dX6_shift_136 rfl (lv_at hl 2 rfl) ?_
              refine xr_get (D := (dC, dI)) (C := RX6) (T := TX6) (N := 4) (v := .ref (ad (xaS cu))) hx hb hts wX6_shift_c6 hown hK hP 0 (xq_c (by decide)) xe_X rfl 3 (by decide) wX6_shift_f33 rfl rfl dX6_shift_137 ?_
              refine lv_iload_n hx hb dX6_shift_140 rfl (lv_at hl 3 rfl) ?_
              have hP9 := x_e1 cu hP
              refine va_callv (va_runV (As := [.int x1]) (rest := []) ⟨hx, hb, C0.2.2.1, hown, hts⟩ (qX4_setPlace l dC dI ad ci A ns hAD st_22 (st_22 cu) ln sv kv_11 cu cu hcu x1 _ h) (cwV 1 hts gX6_shift_X4_setPlace rfl rfl rfl (by decide +kernel) ⟨Nat.le_of_ble_eq_true rfl, Nat.le_of_ble_eq_true rfl⟩) ⟨xr_blind, xr_recv (r := (RX4, TX4, 8)) hK hP (xaS cu) (xq_S hcu) (xe_S rfl) rfl, xr_pre hP9 hK⟩ rfl rfl hl.1 rfl (lv_room (Nat.le_of_ble_eq_true rfl)) dX6_shift_141 ⟨Nat.le_of_ble_eq_true rfl, Nat.le_of_ble_eq_true rfl⟩) hS (fun _ _ h => h) (fun _ h => h) (fun v_23 t9 H locs ht hvm h hB _ _ hS => ?_)
              refine W.cs (cells' := 18) (slots' := 3323) rfl rfl ?_
              have hP := x_th ht hB
              have hP : va_P (dC, dI) vwCl (xw (xn ns) ad (xc ad ci (va_up st_22 cu v_23) ln sv kv_11 cu)) H := by exact hP
              obtain ⟨st_24, est_24⟩ : ∃ z : Nat → StV, z = va_up st_22 cu v_23 := ⟨_, rfl⟩
              have h := h st_24 est_24
              rw [← est_24] at hP
              refine lv_lload hx hb dX6_shift_144 (lv_at hl 1 rfl) ?_
              refine lv_lload_n hx hb dX6_shift_146 rfl (lv_at hl 4 rfl) ?_
              refine lv_ladd hx hb dX6_shift_147 ?_
              exact W.lret (v := (x4_6 + x2)) hx hb hr (fun t ht hW => ⟨⟨(x4_6 + x2), (st_24, kv_11), rfl, h, ⟨ad, ns, hns, rfl, hAD, hcu, x_ht ht hP⟩⟩, hS.F ht⟩) hS.2.2 dX6_shift_148
          · have h := h.1 c_9
            refine lv_ldc2 (v := (-2000000001 : Int64)) hx hb hown (hts _ wX6_shift_k41) dX6_shift_68 ?_
            refine W.widen (k := 18) (n := 3323) (Nat.le_of_ble_eq_true rfl) (Nat.le_of_ble_eq_true rfl) ?_
            exact W.lret (v := (-2000000001 : Int64)) hx hb hr (fun t ht hW => ⟨⟨(-2000000001 : Int64), (st, kv), rfl, h, ⟨ad, ns, hns, rfl, hAD, hcu, x_ht ht hP⟩⟩, hS.F ht⟩) hS.2.2 dX6_shift_71
        · have h := h.1 c_7
          refine lv_ldc2 (v := (-2000000002 : Int64)) hx hb hown (hts _ wX6_shift_k89) dX6_shift_53 ?_
          refine W.widen (k := 18) (n := 3323) (Nat.le_of_ble_eq_true rfl) (Nat.le_of_ble_eq_true rfl) ?_
          exact W.lret (v := (-2000000002 : Int64)) hx hb hr (fun t ht hW => ⟨⟨(-2000000002 : Int64), (st, kv), rfl, h, ⟨ad, ns, hns, rfl, hAD, hcu, x_ht ht hP⟩⟩, hS.F ht⟩) hS.2.2 dX6_shift_56
      · have h := h.2 c_4
        refine lv_ldc2 (v := (-2000000001 : Int64)) hx hb hown (hts _ wX6_shift_k41) dX6_shift_27 ?_
        refine W.widen (k := 18) (n := 3323) (Nat.le_of_ble_eq_true rfl) (Nat.le_of_ble_eq_true rfl) ?_
        exact W.lret (v := (-2000000001 : Int64)) hx hb hr (fun t ht hW => ⟨⟨(-2000000001 : Int64), (st, kv), rfl, h, ⟨ad, ns, hns, rfl, hAD, hcu, x_ht ht hP⟩⟩, hS.F ht⟩) hS.2.2 dX6_shift_30
abbrev rmX6_chain : Room := { frames := 3, cells := 18, slots := 3323, locals := 83 }
theorem wX6_chain_k41 : Cond.constantLong RX6 41 (-2000000001) ∈ wsX6_chain := by decide +kernel
theorem wX6_chain_k87 : Cond.constantLong RX6 87 (-2000000005) ∈ wsX6_chain := by decide +kernel
theorem wX6_chain_c4 : ∀ w ∈ u_ws RX4 TX4 8, w ∈ wsX6_chain := by decide +kernel
theorem wX6_chain_f65 : Cond.fieldLink RX6 65 "DueWheels$State" "dues" "[[J" ∈ wsX6_chain := by decide +kernel
theorem wX6_chain_c6 : ∀ w ∈ u_ws RX6 TX6 4, w ∈ wsX6_chain := by decide +kernel
theorem wX6_chain_f33 : Cond.fieldLink RX6 33 "DueWheels" "state" "LDueWheels$State;" ∈ wsX6_chain := by decide +kernel
theorem wX6_chain_f10 : Cond.fieldLink RX6 10 "DueWheels" "kept" "LDueWheels$Kept;" ∈ wsX6_chain := by decide +kernel
theorem wX6_chain_k104 : Cond.constantLong RX6 104 (-2000000004) ∈ wsX6_chain := by decide +kernel
theorem wX6_chain_k89 : Cond.constantLong RX6 89 (-2000000002) ∈ wsX6_chain := by decide +kernel
def PX6_chain  (st : Nat → StV) (kv : KvV) (cu : Nat) (x1 : Int32) (x2 : Int32) (post : Int64 → (Nat → StV) → KvV → Prop) : Prop :=
  (PX4_isDue (st cu) x1 (fun (r_1 : Int32) => ((r_1 = 0 → post (-2000000001 : Int64) st kv) ∧ (¬ r_1 = 0 → (PX4_isDue (st cu) x2 (fun (r_3 : Int32) => ((r_3 = 0 → post (-2000000001 : Int64) st kv) ∧ (¬ r_3 = 0 → (vp_in x1 200 ∧ (((s_du (st cu) 6 (x1.toNatClampNeg)) = (-2000000005 : Int64) → post (-2000000002 : Int64) st kv) ∧ (¬ (s_du (st cu) 6 (x1.toNatClampNeg)) = (-2000000005 : Int64) → (PX4_isBehind (st cu) x2 x1 (fun (r_7 : Int32) => ((r_7 = 0 → (PX1_keep cu st kv (fun (st_9 : Nat → StV) (kv_10 : KvV) => (vp_in x1 200 ∧ (∀ st_12 : Nat → StV, st_12 = va_up st_9 cu (s_wdu (st_9 cu) 6 (x1.toNatClampNeg) (x2.toInt64)) → post (0 : Int64) st_12 kv_10))))) ∧ (¬ r_7 = 0 → post (-2000000004 : Int64) st kv)))))))))))))))
set_option maxHeartbeats 4000000 in
set_option maxRecDepth 100000 in
theorem qX6_chain (l : Launch) (dC : Nat → ClassId) (dI : Nat → Nat → Nat) (ci : Nat → ClassId) (A : Nat → Prop) (a0 : Nat) (st : Nat → StV) (ln : Nat → LnV) (sv : SvV) (kv : KvV) (cu : Nat) (x1 : Int32) (x2 : Int32) (post : Int64 → (Nat → StV) → KvV → Prop) (h : PX6_chain st kv cu x1 x2 post) : Met l yX6_chain wsX6_chain rmX6_chain (va_Pc [.ref a0, .int x1, .int x2] (xPre (dC, dI) ci A (xB (dC, dI) ci A a0 st ln sv kv cu))) (va_Ql (fun r9 (u : (Nat → StV) × KvV) => post r9 (u.1) (u.2)) (fun u t => xB (dC, dI) ci A a0 (u.1) ln sv (u.2) cu t.heap) A) 18 3323 A := by
  refine Met.ofW (cc := cX6_chain) (maxL := 3) (ret := (some .long)) (by decide) rfl ?_
  intro p e s m args below meth c s₁ B hml hv
  obtain ⟨eargs, hP, hK, hN, hA⟩ := hv
  obtain ⟨ad, ns, hns, h0, hAD, hcu, hP⟩ := hP
  subst h0
  have C0 : xC p s m args meth c cX6_chain 3 (some .long) RX6 wsX6_chain (dC, dI) (xT ci) := ⟨B.exec, B.bytes, hml, B.returns, B.notSynchronized, findClass_of_methodNamed B.named, atoms_spec (ws := wsX6_chain) B.pre, hK⟩
  obtain ⟨hx, hb, -, hr, hlocks, hown, hts, -⟩ := id C0
  have hS : va_S A s.heap s.heap [] := va_S.rf
  have hl := lv_entry ([.ref (ad 0), .int x1, .int x2]) (n := 3) (Nat.le_of_ble_eq_true rfl)
  have ef : entryFrame m args 3 = entryFrame m ([.ref (ad 0), .int x1, .int x2] : List Value).toArray 3 := by rw [eargs]
  rw [ef, lg_entry_eq]
  generalize (lg_sl ([.ref (ad 0), .int x1, .int x2]) ++ List.replicate (3 - (lg_sl ([.ref (ad 0), .int x1, .int x2])).length) Slot.unset).toArray = ls at hl ⊢
  have hl : lv_has ls 3 [(0, .ref (ad 0)), (1, .int x1), (2, .int x2)] := hl
  have hP : va_P (dC, dI) vwCl (xw (xn ns) ad (xc ad ci st ln sv kv cu)) s.heap := hP
  unfold PX6_chain at h
  refine lv_aload_n hx hb dX6_chain_0 rfl (lv_at hl 0 rfl) ?_
  refine xr_get (D := (dC, dI)) (C := RX6) (T := TX6) (N := 4) (v := .ref (ad (xaS cu))) hx hb hts wX6_chain_c6 hown hK hP 0 (xq_c (by decide)) xe_X rfl 3 (by decide) wX6_chain_f33 rfl rfl dX6_chain_1 ?_
  refine lv_iload_n hx hb dX6_chain_4 rfl (lv_at hl 1 rfl) ?_
  have hP9 := x_e1 cu hP
  refine va_calli (va_runV (As := [.int x1]) (rest := []) ⟨hx, hb, C0.2.2.1, hown, hts⟩ (qX4_isDue l dC dI ad ci A ns hAD st (st cu) ln sv kv cu cu hcu x1 _ h) (cwV 1 hts gX6_chain_X4_isDue rfl rfl rfl (by decide +kernel) ⟨Nat.le_of_ble_eq_true rfl, Nat.le_of_ble_eq_true rfl⟩) ⟨xr_blind, xr_recv (r := (RX4, TX4, 8)) hK hP (xaS cu) (xq_S hcu) (xe_S rfl) rfl, xr_pre hP9 hK⟩ rfl rfl hl.1 rfl (lv_room (Nat.le_of_ble_eq_true rfl)) dX6_chain_5 ⟨Nat.le_of_ble_eq_true rfl, Nat.le_of_ble_eq_true rfl⟩) hS (fun _ _ h => h) (fun _ h => h) (fun r_1 _ t9 H locs ht hvm h hB _ _ hS => ?_)
  refine W.cs (cells' := 0) (slots' := 0) rfl rfl ?_
  have hP := x_th ht hB
  have hP : va_P (dC, dI) vwCl (xw (xn ns) ad (xc ad ci st ln sv kv cu)) H := by simp only [x_eta] at hP; exact hP
  refine lv_if_eq (tgt := 22) hx hb dX6_chain_8 (by decide) (fun c_2 => ?_) (fun c_2 => ?_)
  · have h := h.1 c_2
    refine lv_ldc2 (v := (-2000000001 : Int64)) hx hb hown (hts _ wX6_chain_k41) dX6_chain_22 ?_
    refine W.widen (k := 18) (n := 3323) (Nat.le_of_ble_eq_true rfl) (Nat.le_of_ble_eq_true rfl) ?_
    exact W.lret (v := (-2000000001 : Int64)) hx hb hr (fun t ht hW => ⟨⟨(-2000000001 : Int64), (st, kv), rfl, h, ⟨ad, ns, hns, rfl, hAD, hcu, x_ht ht hP⟩⟩, hS.F ht⟩) hS.2.2 dX6_chain_25
  · have h := h.2 c_2
    refine lv_aload_n hx hb dX6_chain_11 rfl (lv_at hl 0 rfl) ?_
    refine xr_get (D := (dC, dI)) (C := RX6) (T := TX6) (N := 4) (v := .ref (ad (xaS cu))) hx hb hts wX6_chain_c6 hown hK hP 0 (xq_c (by decide)) xe_X rfl 3 (by decide) wX6_chain_f33 rfl rfl dX6_chain_12 ?_
    refine lv_iload_n hx hb dX6_chain_15 rfl (lv_at hl 2 rfl) ?_
    have hP9 := x_e1 cu hP
    refine va_calli (va_runV (As := [.int x2]) (rest := []) ⟨hx, hb, C0.2.2.1, hown, hts⟩ (qX4_isDue l dC dI ad ci A ns hAD st (st cu) ln sv kv cu cu hcu x2 _ h) (cwV 1 hts gX6_chain_X4_isDue rfl rfl rfl (by decide +kernel) ⟨Nat.le_of_ble_eq_true rfl, Nat.le_of_ble_eq_true rfl⟩) ⟨xr_blind, xr_recv (r := (RX4, TX4, 8)) hK hP (xaS cu) (xq_S hcu) (xe_S rfl) rfl, xr_pre hP9 hK⟩ rfl rfl hl.1 rfl (lv_room (Nat.le_of_ble_eq_true rfl)) dX6_chain_16 ⟨Nat.le_of_ble_eq_true rfl, Nat.le_of_ble_eq_true rfl⟩) hS (fun _ _ h => h) (fun _ h => h) (fun r_3 _ t9 H locs ht hvm h hB _ _ hS => ?_)
    refine W.cs (cells' := 0) (slots' := 0) rfl rfl ?_
    have hP := x_th ht hB
    have hP : va_P (dC, dI) vwCl (xw (xn ns) ad (xc ad ci st ln sv kv cu)) H := by simp only [x_eta] at hP; exact hP
    refine lv_if_ne (tgt := 26) hx hb dX6_chain_19 (by decide) (fun c_4 => ?_) (fun c_4 => ?_)
    · have h := h.2 c_4
      refine lv_aload_n hx hb dX6_chain_26 rfl (lv_at hl 0 rfl) ?_
      refine xr_get (D := (dC, dI)) (C := RX6) (T := TX6) (N := 4) (v := .ref (ad (xaS cu))) hx hb hts wX6_chain_c6 hown hK hP 0 (xq_c (by decide)) xe_X rfl 3 (by decide) wX6_chain_f33 rfl rfl dX6_chain_27 ?_
      refine xr_get (D := (dC, dI)) (C := RX4) (T := TX4) (N := 8) (v := .ref (ad (xaD0 cu))) hx hb hts wX6_chain_c4 hown hK hP (xaS cu) (xq_S hcu) (xe_S rfl) rfl 6 (by decide) wX6_chain_f65 rfl rfl dX6_chain_30 ?_
      refine lv_bipush (v := (6 : Int32)) hx hb dX6_chain_33 (by decide) ?_
      refine xr_aald (k := 6) (b := ad (xaD cu 6)) hx hb hK hP (xaD0 cu) 4 (xq_D0 hcu) xe_D0 rfl rfl rfl (x_in _ _ (by decide)) rfl dX6_chain_35 ?_
      refine lv_iload_n hx hb dX6_chain_36 rfl (lv_at hl 1 rfl) ?_
      obtain ⟨g_5, h⟩ := h
      refine xr_lald (k := x1.toNatClampNeg) hx hb hK hP (xaD cu 6) 1 (xq_D hcu (by decide)) (xe_D (by decide) rfl) rfl rfl g_5 dX6_chain_37 ?_
      refine lv_ldc2 (v := (-2000000005 : Int64)) hx hb hown (hts _ wX6_chain_k87) dX6_chain_38 ?_
      refine xr_if_lcmp_ne (tgt := 49) hx hb dX6_chain_41 dX6_chain_42 (by decide) (fun c_6 => ?_) (fun c_6 => ?_)
      · have h := h.2 c_6
        refine lv_aload_n hx hb dX6_chain_49 rfl (lv_at hl 0 rfl) ?_
        refine xr_get (D := (dC, dI)) (C := RX6) (T := TX6) (N := 4) (v := .ref (ad (xaS cu))) hx hb hts wX6_chain_c6 hown hK hP 0 (xq_c (by decide)) xe_X rfl 3 (by decide) wX6_chain_f33 rfl rfl dX6_chain_50 ?_
        refine lv_iload_n hx hb dX6_chain_53 rfl (lv_at hl 2 rfl) ?_
        refine lv_iload_n hx hb dX6_chain_54 rfl (lv_at hl 1 rfl) ?_
        have hP9 := x_e1 cu hP
        refine va_calli (va_runV (As := [.int x2, .int x1]) (rest := []) ⟨hx, hb, C0.2.2.1, hown, hts⟩ (qX4_isBehind l dC dI ad ci A ns hAD st (st cu) ln sv kv cu cu hcu x2 x1 _ h) (cwV 2 hts gX6_chain_X4_isBehind rfl rfl rfl (by decide +kernel) ⟨Nat.le_of_ble_eq_true rfl, Nat.le_of_ble_eq_true rfl⟩) ⟨xr_blind, xr_recv (r := (RX4, TX4, 8)) hK hP (xaS cu) (xq_S hcu) (xe_S rfl) rfl, xr_pre hP9 hK⟩ rfl rfl hl.1 rfl (lv_room (Nat.le_of_ble_eq_true rfl)) dX6_chain_55 ⟨Nat.le_of_ble_eq_true rfl, Nat.le_of_ble_eq_true rfl⟩) hS (fun _ _ h => h) (fun _ h => h) (fun r_7 _ t9 H locs ht hvm h hB _ _ hS => ?_)
        refine W.cs (cells' := 0) (slots' := 0) rfl rfl ?_
        have hP := x_th ht hB
        have hP : va_P (dC, dI) vwCl (xw (xn ns) ad (xc ad ci st ln sv kv cu)) H := by simp only [x_eta] at hP; exact hP
        refine lv_if_eq (tgt := 65) hx hb dX6_chain_58 (by decide) (fun c_8 => ?_) (fun c_8 => ?_)
        · have h := h.1 c_8
          refine lv_aload_n hx hb dX6_chain_65 rfl (lv_at hl 0 rfl) ?_
          refine xr_get (D := (dC, dI)) (C := RX6) (T := TX6) (N := 4) (v := .ref (ad 1)) hx hb hts wX6_chain_c6 hown hK hP 0 (xq_c (by decide)) xe_X rfl 0 (by decide) wX6_chain_f10 rfl rfl dX6_chain_66 ?_
          refine lv_aload_n hx hb dX6_chain_69 rfl (lv_at hl 0 rfl) ?_
          refine xr_get (D := (dC, dI)) (C := RX6) (T := TX6) (N := 4) (v := .ref (ad (xaS cu))) hx hb hts wX6_chain_c6 hown hK hP 0 (xq_c (by decide)) xe_X rfl 3 (by decide) wX6_chain_f33 rfl rfl dX6_chain_70 ?_
          refine va_callv (va_runV (As := [.ref (ad (xaS cu))]) (rest := []) ⟨hx, hb, C0.2.2.1, hown, hts⟩ (qX1_keep l dC dI ad ci A ns hAD st ln sv kv cu cu hcu hcu hns  _ h) (cwV 1 hts gX6_chain_X1_keep rfl rfl rfl (by decide +kernel) ⟨Nat.le_of_ble_eq_true rfl, Nat.le_of_ble_eq_true rfl⟩) ⟨xk_blind, xr_recv (r := (RX1, TX1, 3)) hK hP 1 (xq_c (by decide)) xe_K rfl, xk_pre hP hK hN (fun q hq => hA q (Nat.le_trans hS.1 hq))⟩ rfl rfl hl.1 rfl (lv_room (Nat.le_of_ble_eq_true rfl)) dX6_chain_73 ⟨Nat.le_of_ble_eq_true rfl, Nat.le_of_ble_eq_true rfl⟩) hS (fun _ _ h => h) (fun _ h => h) (fun u9 t9 H locs ht hvm h hB _ _ hS => ?_)
          refine W.cs (cells' := 18) (slots' := 3323) rfl rfl ?_
          obtain ⟨st_9, kv_10⟩ := u9
          obtain ⟨ad, ns, hns, h0, hAD, hcu, hP⟩ := xB_th ht hB
          rw [← h0] at hl ⊢
          have hns : k_ns kv_10 = ns := hns
          have hP : va_P (dC, dI) vwCl (xw (xn ns) ad (xc ad ci st_9 ln sv kv_10 cu)) H := hP
          refine lv_aload_n hx hb dX6_chain_76 rfl (lv_at hl 0 rfl) ?_
          refine xr_get (D := (dC, dI)) (C := RX6) (T := TX6) (N := 4) (v := .ref (ad (xaS cu))) hx hb hts wX6_chain_c6 hown hK hP 0 (xq_c (by decide)) xe_X rfl 3 (by decide) wX6_chain_f33 rfl rfl dX6_chain_77 ?_
          refine xr_get (D := (dC, dI)) (C := RX4) (T := TX4) (N := 8) (v := .ref (ad (xaD0 cu))) hx hb hts wX6_chain_c4 hown hK hP (xaS cu) (xq_S hcu) (xe_S rfl) rfl 6 (by decide) wX6_chain_f65 rfl rfl dX6_chain_80 ?_
          refine lv_bipush (v := (6 : Int32)) hx hb dX6_chain_83 (by decide) ?_
          refine xr_aald (k := 6) (b := ad (xaD cu 6)) hx hb hK hP (xaD0 cu) 4 (xq_D0 hcu) xe_D0 rfl rfl rfl (x_in _ _ (by decide)) rfl dX6_chain_85 ?_
          refine lv_iload_n hx hb dX6_chain_86 rfl (lv_at hl 1 rfl) ?_
          refine lv_iload_n hx hb dX6_chain_87 rfl (lv_at hl 2 rfl) ?_
          refine lv_i2l hx hb dX6_chain_88 rfl ?_
          obtain ⟨g_11, h⟩ := h
          obtain ⟨st_12, est_12⟩ : ∃ z : Nat → StV, z = va_up st_9 cu (s_wdu (st_9 cu) 6 (x1.toNatClampNeg) (x2.toInt64)) := ⟨_, rfl⟩
          have h := h st_12 est_12
          refine xr_last (k := x1.toNatClampNeg) (x := (x2.toInt64)) (g := (xc ad ci st_12 ln sv kv_10 cu)) hx hb hK hP hAD hS (xaD cu 6) 1 (xq_D hcu (by decide)) (xe_D (by decide) rfl) rfl rfl g_11 dX6_chain_89 (xg_du (by decide) rfl est_12.symm) (fun H locs hP hS => ?_)
          refine lv_lconst (v := (0 : Int64)) hx hb dX6_chain_90 (by decide) ?_
          exact W.lret (v := (0 : Int64)) hx hb hr (fun t ht hW => ⟨⟨(0 : Int64), (st_12, kv_10), rfl, h, ⟨ad, ns, hns, rfl, hAD, hcu, x_ht ht hP⟩⟩, hS.F ht⟩) hS.2.2 dX6_chain_91
        · have h := h.2 c_8
          refine lv_ldc2 (v := (-2000000004 : Int64)) hx hb hown (hts _ wX6_chain_k104) dX6_chain_61 ?_
          refine W.widen (k := 18) (n := 3323) (Nat.le_of_ble_eq_true rfl) (Nat.le_of_ble_eq_true rfl) ?_
          exact W.lret (v := (-2000000004 : Int64)) hx hb hr (fun t ht hW => ⟨⟨(-2000000004 : Int64), (st, kv), rfl, h, ⟨ad, ns, hns, rfl, hAD, hcu, x_ht ht hP⟩⟩, hS.F ht⟩) hS.2.2 dX6_chain_64
      · have h := h.1 c_6
        refine lv_ldc2 (v := (-2000000002 : Int64)) hx hb hown (hts _ wX6_chain_k89) dX6_chain_45 ?_
        refine W.widen (k := 18) (n := 3323) (Nat.le_of_ble_eq_true rfl) (Nat.le_of_ble_eq_true rfl) ?_
        exact W.lret (v := (-2000000002 : Int64)) hx hb hr (fun t ht hW => ⟨⟨(-2000000002 : Int64), (st, kv), rfl, h, ⟨ad, ns, hns, rfl, hAD, hcu, x_ht ht hP⟩⟩, hS.F ht⟩) hS.2.2 dX6_chain_48
    · have h := h.1 c_4
      refine lv_ldc2 (v := (-2000000001 : Int64)) hx hb hown (hts _ wX6_chain_k41) dX6_chain_22 ?_
      refine W.widen (k := 18) (n := 3323) (Nat.le_of_ble_eq_true rfl) (Nat.le_of_ble_eq_true rfl) ?_
      exact W.lret (v := (-2000000001 : Int64)) hx hb hr (fun t ht hW => ⟨⟨(-2000000001 : Int64), (st, kv), rfl, h, ⟨ad, ns, hns, rfl, hAD, hcu, x_ht ht hP⟩⟩, hS.F ht⟩) hS.2.2 dX6_chain_25
abbrev rmX6_rest : Room := { frames := 3, cells := 18, slots := 3323, locals := 83 }
theorem wX6_rest_k106 : Cond.constantLong RX6 106 (4) ∈ wsX6_rest := by decide +kernel
theorem wX6_rest_k89 : Cond.constantLong RX6 89 (-2000000002) ∈ wsX6_rest := by decide +kernel
theorem wX6_rest_k87 : Cond.constantLong RX6 87 (-2000000005) ∈ wsX6_rest := by decide +kernel
theorem wX6_rest_c4 : ∀ w ∈ u_ws RX4 TX4 8, w ∈ wsX6_rest := by decide +kernel
theorem wX6_rest_f65 : Cond.fieldLink RX6 65 "DueWheels$State" "dues" "[[J" ∈ wsX6_rest := by decide +kernel
theorem wX6_rest_c6 : ∀ w ∈ u_ws RX6 TX6 4, w ∈ wsX6_rest := by decide +kernel
theorem wX6_rest_f33 : Cond.fieldLink RX6 33 "DueWheels" "state" "LDueWheels$State;" ∈ wsX6_rest := by decide +kernel
theorem wX6_rest_f108 : Cond.fieldLink RX6 108 "DueWheels$State" "time" "J" ∈ wsX6_rest := by decide +kernel
theorem wX6_rest_f10 : Cond.fieldLink RX6 10 "DueWheels" "kept" "LDueWheels$Kept;" ∈ wsX6_rest := by decide +kernel
theorem wX6_rest_k41 : Cond.constantLong RX6 41 (-2000000001) ∈ wsX6_rest := by decide +kernel
def PX6_rest  (st : Nat → StV) (kv : KvV) (cu : Nat) (x1 : Int32) (post : Int64 → (Nat → StV) → KvV → Prop) : Prop :=
  (PX4_isDue (st cu) x1 (fun (r_1 : Int32) => ((r_1 = 0 → post (-2000000001 : Int64) st kv) ∧ (¬ r_1 = 0 → (vp_in x1 200 ∧ (((s_du (st cu) 0 (x1.toNatClampNeg)) = (4 : Int64) → (vp_in x1 200 ∧ (((s_du (st cu) 7 (x1.toNatClampNeg)) = (-2000000005 : Int64) → (PX1_keep cu st kv (fun (st_7 : Nat → StV) (kv_8 : KvV) => (vp_in x1 200 ∧ ∀ x2_10 : Int64, x2_10 = ((s_du (st_7 cu) 2 (x1.toNatClampNeg)) - (s_tm (st_7 cu))) → (vp_in x1 200 ∧ (∀ st_12 : Nat → StV, st_12 = va_up st_7 cu (s_wdu (st_7 cu) 7 (x1.toNatClampNeg) x2_10) → (vp_in x1 200 ∧ (∀ st_14 : Nat → StV, st_14 = va_up st_12 cu (s_wdu (st_12 cu) 2 (x1.toNatClampNeg) (-2000000005 : Int64)) → (vp_in x1 200 ∧ (∀ st_16 : Nat → StV, st_16 = va_up st_14 cu (s_wdu (st_14 cu) 11 (x1.toNatClampNeg) (0 : Int64)) → post x2_10 st_16 kv_8)))))))))) ∧ (¬ (s_du (st cu) 7 (x1.toNatClampNeg)) = (-2000000005 : Int64) → post (-2000000002 : Int64) st kv)))) ∧ (¬ (s_du (st cu) 0 (x1.toNatClampNeg)) = (4 : Int64) → post (-2000000002 : Int64) st kv)))))))
set_option maxHeartbeats 4000000 in
set_option maxRecDepth 100000 in
theorem qX6_rest (l : Launch) (dC : Nat → ClassId) (dI : Nat → Nat → Nat) (ci : Nat → ClassId) (A : Nat → Prop) (a0 : Nat) (st : Nat → StV) (ln : Nat → LnV) (sv : SvV) (kv : KvV) (cu : Nat) (x1 : Int32) (post : Int64 → (Nat → StV) → KvV → Prop) (h : PX6_rest st kv cu x1 post) : Met l yX6_rest wsX6_rest rmX6_rest (va_Pc [.ref a0, .int x1] (xPre (dC, dI) ci A (xB (dC, dI) ci A a0 st ln sv kv cu))) (va_Ql (fun r9 (u : (Nat → StV) × KvV) => post r9 (u.1) (u.2)) (fun u t => xB (dC, dI) ci A a0 (u.1) ln sv (u.2) cu t.heap) A) 18 3323 A := by
  refine Met.ofW (cc := cX6_rest) (maxL := 4) (ret := (some .long)) (by decide) rfl ?_
  intro p e s m args below meth c s₁ B hml hv
  obtain ⟨eargs, hP, hK, hN, hA⟩ := hv
  obtain ⟨ad, ns, hns, h0, hAD, hcu, hP⟩ := hP
  subst h0
  have C0 : xC p s m args meth c cX6_rest 4 (some .long) RX6 wsX6_rest (dC, dI) (xT ci) := ⟨B.exec, B.bytes, hml, B.returns, B.notSynchronized, findClass_of_methodNamed B.named, atoms_spec (ws := wsX6_rest) B.pre, hK⟩
  obtain ⟨hx, hb, -, hr, hlocks, hown, hts, -⟩ := id C0
  have hS : va_S A s.heap s.heap [] := va_S.rf
  have hl := lv_entry ([.ref (ad 0), .int x1]) (n := 4) (Nat.le_of_ble_eq_true rfl)
  have ef : entryFrame m args 4 = entryFrame m ([.ref (ad 0), .int x1] : List Value).toArray 4 := by rw [eargs]
  rw [ef, lg_entry_eq]
  generalize (lg_sl ([.ref (ad 0), .int x1]) ++ List.replicate (4 - (lg_sl ([.ref (ad 0), .int x1])).length) Slot.unset).toArray = ls at hl ⊢
  have hl : lv_has ls 4 [(0, .ref (ad 0)), (1, .int x1)] := hl
  have hP : va_P (dC, dI) vwCl (xw (xn ns) ad (xc ad ci st ln sv kv cu)) s.heap := hP
  unfold PX6_rest at h
  refine lv_aload_n hx hb dX6_rest_0 rfl (lv_at hl 0 rfl) ?_
  refine xr_get (D := (dC, dI)) (C := RX6) (T := TX6) (N := 4) (v := .ref (ad (xaS cu))) hx hb hts wX6_rest_c6 hown hK hP 0 (xq_c (by decide)) xe_X rfl 3 (by decide) wX6_rest_f33 rfl rfl dX6_rest_1 ?_
  refine lv_iload_n hx hb dX6_rest_4 rfl (lv_at hl 1 rfl) ?_
  have hP9 := x_e1 cu hP
  refine va_calli (va_runV (As := [.int x1]) (rest := []) ⟨hx, hb, C0.2.2.1, hown, hts⟩ (qX4_isDue l dC dI ad ci A ns hAD st (st cu) ln sv kv cu cu hcu x1 _ h) (cwV 1 hts gX6_rest_X4_isDue rfl rfl rfl (by decide +kernel) ⟨Nat.le_of_ble_eq_true rfl, Nat.le_of_ble_eq_true rfl⟩) ⟨xr_blind, xr_recv (r := (RX4, TX4, 8)) hK hP (xaS cu) (xq_S hcu) (xe_S rfl) rfl, xr_pre hP9 hK⟩ rfl rfl hl.1 rfl (lv_room (Nat.le_of_ble_eq_true rfl)) dX6_rest_5 ⟨Nat.le_of_ble_eq_true rfl, Nat.le_of_ble_eq_true rfl⟩) hS (fun _ _ h => h) (fun _ h => h) (fun r_1 _ t9 H locs ht hvm h hB _ _ hS => ?_)
  refine W.cs (cells' := 0) (slots' := 0) rfl rfl ?_
  have hP := x_th ht hB
  have hP : va_P (dC, dI) vwCl (xw (xn ns) ad (xc ad ci st ln sv kv cu)) H := by simp only [x_eta] at hP; exact hP
  refine lv_if_ne (tgt := 15) hx hb dX6_rest_8 (by decide) (fun c_2 => ?_) (fun c_2 => ?_)
  · have h := h.2 c_2
    refine lv_aload_n hx hb dX6_rest_15 rfl (lv_at hl 0 rfl) ?_
    refine xr_get (D := (dC, dI)) (C := RX6) (T := TX6) (N := 4) (v := .ref (ad (xaS cu))) hx hb hts wX6_rest_c6 hown hK hP 0 (xq_c (by decide)) xe_X rfl 3 (by decide) wX6_rest_f33 rfl rfl dX6_rest_16 ?_
    refine xr_get (D := (dC, dI)) (C := RX4) (T := TX4) (N := 8) (v := .ref (ad (xaD0 cu))) hx hb hts wX6_rest_c4 hown hK hP (xaS cu) (xq_S hcu) (xe_S rfl) rfl 6 (by decide) wX6_rest_f65 rfl rfl dX6_rest_19 ?_
    refine lv_iconst (v := (0 : Int32)) hx hb dX6_rest_22 (by decide) ?_
    refine xr_aald (k := 0) (b := ad (xaD cu 0)) hx hb hK hP (xaD0 cu) 4 (xq_D0 hcu) xe_D0 rfl rfl rfl (x_in _ _ (by decide)) rfl dX6_rest_23 ?_
    refine lv_iload_n hx hb dX6_rest_24 rfl (lv_at hl 1 rfl) ?_
    obtain ⟨g_3, h⟩ := h
    refine xr_lald (k := x1.toNatClampNeg) hx hb hK hP (xaD cu 0) 1 (xq_D hcu (by decide)) (xe_D (by decide) rfl) rfl rfl g_3 dX6_rest_25 ?_
    refine lv_ldc2 (v := (4 : Int64)) hx hb hown (hts _ wX6_rest_k106) dX6_rest_26 ?_
    refine xr_if_lcmp_ne (tgt := 52) hx hb dX6_rest_29 dX6_rest_30 (by decide) (fun c_4 => ?_) (fun c_4 => ?_)
    · have h := h.2 c_4
      refine lv_ldc2 (v := (-2000000002 : Int64)) hx hb hown (hts _ wX6_rest_k89) dX6_rest_52 ?_
      refine W.widen (k := 18) (n := 3323) (Nat.le_of_ble_eq_true rfl) (Nat.le_of_ble_eq_true rfl) ?_
      exact W.lret (v := (-2000000002 : Int64)) hx hb hr (fun t ht hW => ⟨⟨(-2000000002 : Int64), (st, kv), rfl, h, ⟨ad, ns, hns, rfl, hAD, hcu, x_ht ht hP⟩⟩, hS.F ht⟩) hS.2.2 dX6_rest_55
    · have h := h.1 c_4
      refine lv_aload_n hx hb dX6_rest_33 rfl (lv_at hl 0 rfl) ?_
      refine xr_get (D := (dC, dI)) (C := RX6) (T := TX6) (N := 4) (v := .ref (ad (xaS cu))) hx hb hts wX6_rest_c6 hown hK hP 0 (xq_c (by decide)) xe_X rfl 3 (by decide) wX6_rest_f33 rfl rfl dX6_rest_34 ?_
      refine xr_get (D := (dC, dI)) (C := RX4) (T := TX4) (N := 8) (v := .ref (ad (xaD0 cu))) hx hb hts wX6_rest_c4 hown hK hP (xaS cu) (xq_S hcu) (xe_S rfl) rfl 6 (by decide) wX6_rest_f65 rfl rfl dX6_rest_37 ?_
      refine lv_bipush (v := (7 : Int32)) hx hb dX6_rest_40 (by decide) ?_
      refine xr_aald (k := 7) (b := ad (xaD cu 7)) hx hb hK hP (xaD0 cu) 4 (xq_D0 hcu) xe_D0 rfl rfl rfl (x_in _ _ (by decide)) rfl dX6_rest_42 ?_
      refine lv_iload_n hx hb dX6_rest_43 rfl (lv_at hl 1 rfl) ?_
      obtain ⟨g_5, h⟩ := h
      refine xr_lald (k := x1.toNatClampNeg) hx hb hK hP (xaD cu 7) 1 (xq_D hcu (by decide)) (xe_D (by decide) rfl) rfl rfl g_5 dX6_rest_44 ?_
      refine lv_ldc2 (v := (-2000000005 : Int64)) hx hb hown (hts _ wX6_rest_k87) dX6_rest_45 ?_
      refine xr_if_lcmp_eq (tgt := 56) hx hb dX6_rest_48 dX6_rest_49 (by decide) (fun c_6 => ?_) (fun c_6 => ?_)
      · have h := h.1 c_6
        refine lv_aload_n hx hb dX6_rest_56 rfl (lv_at hl 0 rfl) ?_
        refine xr_get (D := (dC, dI)) (C := RX6) (T := TX6) (N := 4) (v := .ref (ad 1)) hx hb hts wX6_rest_c6 hown hK hP 0 (xq_c (by decide)) xe_X rfl 0 (by decide) wX6_rest_f10 rfl rfl dX6_rest_57 ?_
        refine lv_aload_n hx hb dX6_rest_60 rfl (lv_at hl 0 rfl) ?_
        refine xr_get (D := (dC, dI)) (C := RX6) (T := TX6) (N := 4) (v := .ref (ad (xaS cu))) hx hb hts wX6_rest_c6 hown hK hP 0 (xq_c (by decide)) xe_X rfl 3 (by decide) wX6_rest_f33 rfl rfl dX6_rest_61 ?_
        refine va_callv (va_runV (As := [.ref (ad (xaS cu))]) (rest := []) ⟨hx, hb, C0.2.2.1, hown, hts⟩ (qX1_keep l dC dI ad ci A ns hAD st ln sv kv cu cu hcu hcu hns  _ h) (cwV 1 hts gX6_rest_X1_keep rfl rfl rfl (by decide +kernel) ⟨Nat.le_of_ble_eq_true rfl, Nat.le_of_ble_eq_true rfl⟩) ⟨xk_blind, xr_recv (r := (RX1, TX1, 3)) hK hP 1 (xq_c (by decide)) xe_K rfl, xk_pre hP hK hN (fun q hq => hA q (Nat.le_trans hS.1 hq))⟩ rfl rfl hl.1 rfl (lv_room (Nat.le_of_ble_eq_true rfl)) dX6_rest_64 ⟨Nat.le_of_ble_eq_true rfl, Nat.le_of_ble_eq_true rfl⟩) hS (fun _ _ h => h) (fun _ h => h) (fun u9 t9 H locs ht hvm h hB _ _ hS => ?_)
        refine W.cs (cells' := 18) (slots' := 3323) rfl rfl ?_
        obtain ⟨st_7, kv_8⟩ := u9
        obtain ⟨ad, ns, hns, h0, hAD, hcu, hP⟩ := xB_th ht hB
        rw [← h0] at hl ⊢
        have hns : k_ns kv_8 = ns := hns
        have hP : va_P (dC, dI) vwCl (xw (xn ns) ad (xc ad ci st_7 ln sv kv_8 cu)) H := hP
        refine lv_aload_n hx hb dX6_rest_67 rfl (lv_at hl 0 rfl) ?_
        refine xr_get (D := (dC, dI)) (C := RX6) (T := TX6) (N := 4) (v := .ref (ad (xaS cu))) hx hb hts wX6_rest_c6 hown hK hP 0 (xq_c (by decide)) xe_X rfl 3 (by decide) wX6_rest_f33 rfl rfl dX6_rest_68 ?_
        refine xr_get (D := (dC, dI)) (C := RX4) (T := TX4) (N := 8) (v := .ref (ad (xaD0 cu))) hx hb hts wX6_rest_c4 hown hK hP (xaS cu) (xq_S hcu) (xe_S rfl) rfl 6 (by decide) wX6_rest_f65 rfl rfl dX6_rest_71 ?_
        refine lv_iconst (v := (2 : Int32)) hx hb dX6_rest_74 (by decide) ?_
        refine xr_aald (k := 2) (b := ad (xaD cu 2)) hx hb hK hP (xaD0 cu) 4 (xq_D0 hcu) xe_D0 rfl rfl rfl (x_in _ _ (by decide)) rfl dX6_rest_75 ?_
        refine lv_iload_n hx hb dX6_rest_76 rfl (lv_at hl 1 rfl) ?_
        obtain ⟨g_9, h⟩ := h
        refine xr_lald (k := x1.toNatClampNeg) hx hb hK hP (xaD cu 2) 1 (xq_D hcu (by decide)) (xe_D (by decide) rfl) rfl rfl g_9 dX6_rest_77 ?_
        refine lv_aload_n hx hb dX6_rest_78 rfl (lv_at hl 0 rfl) ?_
        refine xr_get (D := (dC, dI)) (C := RX6) (T := TX6) (N := 4) (v := .ref (ad (xaS cu))) hx hb hts wX6_rest_c6 hown hK hP 0 (xq_c (by decide)) xe_X rfl 3 (by decide) wX6_rest_f33 rfl rfl dX6_rest_79 ?_
        refine xr_get (D := (dC, dI)) (C := RX4) (T := TX4) (N := 8) (v := .long (s_tm (st_7 cu))) hx hb hts wX6_rest_c4 hown hK hP (xaS cu) (xq_S hcu) (xe_S rfl) rfl 0 (by decide) wX6_rest_f108 rfl rfl dX6_rest_82 ?_
        refine lv_lsub hx hb dX6_rest_85 ?_
        refine lv_topl (fun x2_10 ex2_10 => ?_)
        have h := h x2_10 ex2_10
        refine lv_lstore_n (lv' := [(2, .long x2_10), (0, .ref (ad 0)), (1, .int x1)]) hx hb dX6_rest_86 rfl hl (by decide) rfl (fun ls hl => ?_)
        refine lv_aload_n hx hb dX6_rest_87 rfl (lv_at hl 1 rfl) ?_
        refine xr_get (D := (dC, dI)) (C := RX6) (T := TX6) (N := 4) (v := .ref (ad (xaS cu))) hx hb hts wX6_rest_c6 hown hK hP 0 (xq_c (by decide)) xe_X rfl 3 (by decide) wX6_rest_f33 rfl rfl dX6_rest_88 ?_
        refine xr_get (D := (dC, dI)) (C := RX4) (T := TX4) (N := 8) (v := .ref (ad (xaD0 cu))) hx hb hts wX6_rest_c4 hown hK hP (xaS cu) (xq_S hcu) (xe_S rfl) rfl 6 (by decide) wX6_rest_f65 rfl rfl dX6_rest_91 ?_
        refine lv_bipush (v := (7 : Int32)) hx hb dX6_rest_94 (by decide) ?_
        refine xr_aald (k := 7) (b := ad (xaD cu 7)) hx hb hK hP (xaD0 cu) 4 (xq_D0 hcu) xe_D0 rfl rfl rfl (x_in _ _ (by decide)) rfl dX6_rest_96 ?_
        refine lv_iload_n hx hb dX6_rest_97 rfl (lv_at hl 2 rfl) ?_
        refine lv_lload_n hx hb dX6_rest_98 rfl (lv_at hl 0 rfl) ?_
        obtain ⟨g_11, h⟩ := h
        obtain ⟨st_12, est_12⟩ : ∃ z : Nat → StV, z = va_up st_7 cu (s_wdu (st_7 cu) 7 (x1.toNatClampNeg) x2_10) := ⟨_, rfl⟩
        have h := h st_12 est_12
        refine xr_last (k := x1.toNatClampNeg) (x := x2_10) (g := (xc ad ci st_12 ln sv kv_8 cu)) hx hb hK hP hAD hS (xaD cu 7) 1 (xq_D hcu (by decide)) (xe_D (by decide) rfl) rfl rfl g_11 dX6_rest_99 (xg_du (by decide) rfl est_12.symm) (fun H locs hP hS => ?_)
        refine lv_aload_n hx hb dX6_rest_100 rfl (lv_at hl 1 rfl) ?_
        refine xr_get (D := (dC, dI)) (C := RX6) (T := TX6) (N := 4) (v := .ref (ad (xaS cu))) hx hb hts wX6_rest_c6 hown hK hP 0 (xq_c (by decide)) xe_X rfl 3 (by decide) wX6_rest_f33 rfl rfl dX6_rest_101 ?_
        refine xr_get (D := (dC, dI)) (C := RX4) (T := TX4) (N := 8) (v := .ref (ad (xaD0 cu))) hx hb hts wX6_rest_c4 hown hK hP (xaS cu) (xq_S hcu) (xe_S rfl) rfl 6 (by decide) wX6_rest_f65 rfl rfl dX6_rest_104 ?_
        refine lv_iconst (v := (2 : Int32)) hx hb dX6_rest_107 (by decide) ?_
        refine xr_aald (k := 2) (b := ad (xaD cu 2)) hx hb hK hP (xaD0 cu) 4 (xq_D0 hcu) xe_D0 rfl rfl rfl (x_in _ _ (by decide)) rfl dX6_rest_108 ?_
        refine lv_iload_n hx hb dX6_rest_109 rfl (lv_at hl 2 rfl) ?_
        refine lv_ldc2 (v := (-2000000005 : Int64)) hx hb hown (hts _ wX6_rest_k87) dX6_rest_110 ?_
        obtain ⟨g_13, h⟩ := h
        obtain ⟨st_14, est_14⟩ : ∃ z : Nat → StV, z = va_up st_12 cu (s_wdu (st_12 cu) 2 (x1.toNatClampNeg) (-2000000005 : Int64)) := ⟨_, rfl⟩
        have h := h st_14 est_14
        refine xr_last (k := x1.toNatClampNeg) (x := (-2000000005 : Int64)) (g := (xc ad ci st_14 ln sv kv_8 cu)) hx hb hK hP hAD hS (xaD cu 2) 1 (xq_D hcu (by decide)) (xe_D (by decide) rfl) rfl rfl g_13 dX6_rest_113 (xg_du (by decide) rfl est_14.symm) (fun H locs hP hS => ?_)
        refine lv_aload_n hx hb dX6_rest_114 rfl (lv_at hl 1 rfl) ?_
        refine xr_get (D := (dC, dI)) (C := RX6) (T := TX6) (N := 4) (v := .ref (ad (xaS cu))) hx hb hts wX6_rest_c6 hown hK hP 0 (xq_c (by decide)) xe_X rfl 3 (by decide) wX6_rest_f33 rfl rfl dX6_rest_115 ?_
        refine xr_get (D := (dC, dI)) (C := RX4) (T := TX4) (N := 8) (v := .ref (ad (xaD0 cu))) hx hb hts wX6_rest_c4 hown hK hP (xaS cu) (xq_S hcu) (xe_S rfl) rfl 6 (by decide) wX6_rest_f65 rfl rfl dX6_rest_118 ?_
        refine lv_bipush (v := (11 : Int32)) hx hb dX6_rest_121 (by decide) ?_
        refine xr_aald (k := 11) (b := ad (xaD cu 11)) hx hb hK hP (xaD0 cu) 4 (xq_D0 hcu) xe_D0 rfl rfl rfl (x_in _ _ (by decide)) rfl dX6_rest_123 ?_
        refine lv_iload_n hx hb dX6_rest_124 rfl (lv_at hl 2 rfl) ?_
        refine lv_lconst (v := (0 : Int64)) hx hb dX6_rest_125 (by decide) ?_
        obtain ⟨g_15, h⟩ := h
        obtain ⟨st_16, est_16⟩ : ∃ z : Nat → StV, z = va_up st_14 cu (s_wdu (st_14 cu) 11 (x1.toNatClampNeg) (0 : Int64)) := ⟨_, rfl⟩
        have h := h st_16 est_16
        refine xr_last (k := x1.toNatClampNeg) (x := (0 : Int64)) (g := (xc ad ci st_16 ln sv kv_8 cu)) hx hb hK hP hAD hS (xaD cu 11) 1 (xq_D hcu (by decide)) (xe_D (by decide) rfl) rfl rfl g_15 dX6_rest_126 (xg_du (by decide) rfl est_16.symm) (fun H locs hP hS => ?_)
        refine lv_lload_n hx hb dX6_rest_127 rfl (lv_at hl 0 rfl) ?_
        exact W.lret (v := x2_10) hx hb hr (fun t ht hW => ⟨⟨x2_10, (st_16, kv_8), rfl, h, ⟨ad, ns, hns, rfl, hAD, hcu, x_ht ht hP⟩⟩, hS.F ht⟩) hS.2.2 dX6_rest_128
      · have h := h.2 c_6
        refine lv_ldc2 (v := (-2000000002 : Int64)) hx hb hown (hts _ wX6_rest_k89) dX6_rest_52 ?_
        refine W.widen (k := 18) (n := 3323) (Nat.le_of_ble_eq_true rfl) (Nat.le_of_ble_eq_true rfl) ?_
        exact W.lret (v := (-2000000002 : Int64)) hx hb hr (fun t ht hW => ⟨⟨(-2000000002 : Int64), (st, kv), rfl, h, ⟨ad, ns, hns, rfl, hAD, hcu, x_ht ht hP⟩⟩, hS.F ht⟩) hS.2.2 dX6_rest_55
  · have h := h.1 c_2
    refine lv_ldc2 (v := (-2000000001 : Int64)) hx hb hown (hts _ wX6_rest_k41) dX6_rest_11 ?_
    refine W.widen (k := 18) (n := 3323) (Nat.le_of_ble_eq_true rfl) (Nat.le_of_ble_eq_true rfl) ?_
    exact W.lret (v := (-2000000001 : Int64)) hx hb hr (fun t ht hW => ⟨⟨(-2000000001 : Int64), (st, kv), rfl, h, ⟨ad, ns, hns, rfl, hAD, hcu, x_ht ht hP⟩⟩, hS.F ht⟩) hS.2.2 dX6_rest_14
abbrev rmX6_wake : Room := { frames := 3, cells := 18, slots := 3323, locals := 83 }
theorem wX6_wake_k87 : Cond.constantLong RX6 87 (-2000000005) ∈ wsX6_wake := by decide +kernel
theorem wX6_wake_c4 : ∀ w ∈ u_ws RX4 TX4 8, w ∈ wsX6_wake := by decide +kernel
theorem wX6_wake_f65 : Cond.fieldLink RX6 65 "DueWheels$State" "dues" "[[J" ∈ wsX6_wake := by decide +kernel
theorem wX6_wake_c6 : ∀ w ∈ u_ws RX6 TX6 4, w ∈ wsX6_wake := by decide +kernel
theorem wX6_wake_f33 : Cond.fieldLink RX6 33 "DueWheels" "state" "LDueWheels$State;" ∈ wsX6_wake := by decide +kernel
theorem wX6_wake_f108 : Cond.fieldLink RX6 108 "DueWheels$State" "time" "J" ∈ wsX6_wake := by decide +kernel
theorem wX6_wake_f10 : Cond.fieldLink RX6 10 "DueWheels" "kept" "LDueWheels$Kept;" ∈ wsX6_wake := by decide +kernel
theorem wX6_wake_k89 : Cond.constantLong RX6 89 (-2000000002) ∈ wsX6_wake := by decide +kernel
theorem wX6_wake_k41 : Cond.constantLong RX6 41 (-2000000001) ∈ wsX6_wake := by decide +kernel
def PX6_wake  (st : Nat → StV) (kv : KvV) (cu : Nat) (x1 : Int32) (post : Int64 → (Nat → StV) → KvV → Prop) : Prop :=
  (PX4_isDue (st cu) x1 (fun (r_1 : Int32) => ((r_1 = 0 → post (-2000000001 : Int64) st kv) ∧ (¬ r_1 = 0 → (vp_in x1 200 ∧ ∀ x2_4 : Int64, x2_4 = (s_du (st cu) 7 (x1.toNatClampNeg)) → ((x2_4 = (-2000000005 : Int64) → post (-2000000002 : Int64) st kv) ∧ (¬ x2_4 = (-2000000005 : Int64) → (PX1_keep cu st kv (fun (st_6 : Nat → StV) (kv_7 : KvV) => (vp_in x1 200 ∧ (∀ st_9 : Nat → StV, st_9 = va_up st_6 cu (s_wdu (st_6 cu) 7 (x1.toNatClampNeg) (-2000000005 : Int64)) → (PX4_setTick (st_9 cu) x1 ((s_tm (st_9 cu)) + x2_4) (fun (v_10 : StV) => ∀ st_11 : Nat → StV, st_11 = va_up st_9 cu v_10 → (PX4_setPlace (st_11 cu) x1 (fun (v_12 : StV) => ∀ st_13 : Nat → StV, st_13 = va_up st_11 cu v_12 → (vp_in x1 200 ∧ post (s_du (st_13 cu) 2 (x1.toNatClampNeg)) st_13 kv_7))))))))))))))))
set_option maxHeartbeats 4000000 in
set_option maxRecDepth 100000 in
theorem qX6_wake (l : Launch) (dC : Nat → ClassId) (dI : Nat → Nat → Nat) (ci : Nat → ClassId) (A : Nat → Prop) (a0 : Nat) (st : Nat → StV) (ln : Nat → LnV) (sv : SvV) (kv : KvV) (cu : Nat) (x1 : Int32) (post : Int64 → (Nat → StV) → KvV → Prop) (h : PX6_wake st kv cu x1 post) : Met l yX6_wake wsX6_wake rmX6_wake (va_Pc [.ref a0, .int x1] (xPre (dC, dI) ci A (xB (dC, dI) ci A a0 st ln sv kv cu))) (va_Ql (fun r9 (u : (Nat → StV) × KvV) => post r9 (u.1) (u.2)) (fun u t => xB (dC, dI) ci A a0 (u.1) ln sv (u.2) cu t.heap) A) 18 3323 A := by
  refine Met.ofW (cc := cX6_wake) (maxL := 4) (ret := (some .long)) (by decide) rfl ?_
  intro p e s m args below meth c s₁ B hml hv
  obtain ⟨eargs, hP, hK, hN, hA⟩ := hv
  obtain ⟨ad, ns, hns, h0, hAD, hcu, hP⟩ := hP
  subst h0
  have C0 : xC p s m args meth c cX6_wake 4 (some .long) RX6 wsX6_wake (dC, dI) (xT ci) := ⟨B.exec, B.bytes, hml, B.returns, B.notSynchronized, findClass_of_methodNamed B.named, atoms_spec (ws := wsX6_wake) B.pre, hK⟩
  obtain ⟨hx, hb, -, hr, hlocks, hown, hts, -⟩ := id C0
  have hS : va_S A s.heap s.heap [] := va_S.rf
  have hl := lv_entry ([.ref (ad 0), .int x1]) (n := 4) (Nat.le_of_ble_eq_true rfl)
  have ef : entryFrame m args 4 = entryFrame m ([.ref (ad 0), .int x1] : List Value).toArray 4 := by rw [eargs]
  rw [ef, lg_entry_eq]
  generalize (lg_sl ([.ref (ad 0), .int x1]) ++ List.replicate (4 - (lg_sl ([.ref (ad 0), .int x1])).length) Slot.unset).toArray = ls at hl ⊢
  have hl : lv_has ls 4 [(0, .ref (ad 0)), (1, .int x1)] := hl
  have hP : va_P (dC, dI) vwCl (xw (xn ns) ad (xc ad ci st ln sv kv cu)) s.heap := hP
  unfold PX6_wake at h
  refine lv_aload_n hx hb dX6_wake_0 rfl (lv_at hl 0 rfl) ?_
  refine xr_get (D := (dC, dI)) (C := RX6) (T := TX6) (N := 4) (v := .ref (ad (xaS cu))) hx hb hts wX6_wake_c6 hown hK hP 0 (xq_c (by decide)) xe_X rfl 3 (by decide) wX6_wake_f33 rfl rfl dX6_wake_1 ?_
  refine lv_iload_n hx hb dX6_wake_4 rfl (lv_at hl 1 rfl) ?_
  have hP9 := x_e1 cu hP
  refine va_calli (va_runV (As := [.int x1]) (rest := []) ⟨hx, hb, C0.2.2.1, hown, hts⟩ (qX4_isDue l dC dI ad ci A ns hAD st (st cu) ln sv kv cu cu hcu x1 _ h) (cwV 1 hts gX6_wake_X4_isDue rfl rfl rfl (by decide +kernel) ⟨Nat.le_of_ble_eq_true rfl, Nat.le_of_ble_eq_true rfl⟩) ⟨xr_blind, xr_recv (r := (RX4, TX4, 8)) hK hP (xaS cu) (xq_S hcu) (xe_S rfl) rfl, xr_pre hP9 hK⟩ rfl rfl hl.1 rfl (lv_room (Nat.le_of_ble_eq_true rfl)) dX6_wake_5 ⟨Nat.le_of_ble_eq_true rfl, Nat.le_of_ble_eq_true rfl⟩) hS (fun _ _ h => h) (fun _ h => h) (fun r_1 _ t9 H locs ht hvm h hB _ _ hS => ?_)
  refine W.cs (cells' := 0) (slots' := 0) rfl rfl ?_
  have hP := x_th ht hB
  have hP : va_P (dC, dI) vwCl (xw (xn ns) ad (xc ad ci st ln sv kv cu)) H := by simp only [x_eta] at hP; exact hP
  refine lv_if_ne (tgt := 15) hx hb dX6_wake_8 (by decide) (fun c_2 => ?_) (fun c_2 => ?_)
  · have h := h.2 c_2
    refine lv_aload_n hx hb dX6_wake_15 rfl (lv_at hl 0 rfl) ?_
    refine xr_get (D := (dC, dI)) (C := RX6) (T := TX6) (N := 4) (v := .ref (ad (xaS cu))) hx hb hts wX6_wake_c6 hown hK hP 0 (xq_c (by decide)) xe_X rfl 3 (by decide) wX6_wake_f33 rfl rfl dX6_wake_16 ?_
    refine xr_get (D := (dC, dI)) (C := RX4) (T := TX4) (N := 8) (v := .ref (ad (xaD0 cu))) hx hb hts wX6_wake_c4 hown hK hP (xaS cu) (xq_S hcu) (xe_S rfl) rfl 6 (by decide) wX6_wake_f65 rfl rfl dX6_wake_19 ?_
    refine lv_bipush (v := (7 : Int32)) hx hb dX6_wake_22 (by decide) ?_
    refine xr_aald (k := 7) (b := ad (xaD cu 7)) hx hb hK hP (xaD0 cu) 4 (xq_D0 hcu) xe_D0 rfl rfl rfl (x_in _ _ (by decide)) rfl dX6_wake_24 ?_
    refine lv_iload_n hx hb dX6_wake_25 rfl (lv_at hl 1 rfl) ?_
    obtain ⟨g_3, h⟩ := h
    refine xr_lald (k := x1.toNatClampNeg) hx hb hK hP (xaD cu 7) 1 (xq_D hcu (by decide)) (xe_D (by decide) rfl) rfl rfl g_3 dX6_wake_26 ?_
    refine lv_topl (fun x2_4 ex2_4 => ?_)
    have h := h x2_4 ex2_4
    refine lv_lstore_n (lv' := [(2, .long x2_4), (0, .ref (ad 0)), (1, .int x1)]) hx hb dX6_wake_27 rfl hl (by decide) rfl (fun ls hl => ?_)
    refine lv_lload_n hx hb dX6_wake_28 rfl (lv_at hl 0 rfl) ?_
    refine lv_ldc2 (v := (-2000000005 : Int64)) hx hb hown (hts _ wX6_wake_k87) dX6_wake_29 ?_
    refine xr_if_lcmp_ne (tgt := 40) hx hb dX6_wake_32 dX6_wake_33 (by decide) (fun c_5 => ?_) (fun c_5 => ?_)
    · have h := h.2 c_5
      refine lv_aload_n hx hb dX6_wake_40 rfl (lv_at hl 1 rfl) ?_
      refine xr_get (D := (dC, dI)) (C := RX6) (T := TX6) (N := 4) (v := .ref (ad 1)) hx hb hts wX6_wake_c6 hown hK hP 0 (xq_c (by decide)) xe_X rfl 0 (by decide) wX6_wake_f10 rfl rfl dX6_wake_41 ?_
      refine lv_aload_n hx hb dX6_wake_44 rfl (lv_at hl 1 rfl) ?_
      refine xr_get (D := (dC, dI)) (C := RX6) (T := TX6) (N := 4) (v := .ref (ad (xaS cu))) hx hb hts wX6_wake_c6 hown hK hP 0 (xq_c (by decide)) xe_X rfl 3 (by decide) wX6_wake_f33 rfl rfl dX6_wake_45 ?_
      refine va_callv (va_runV (As := [.ref (ad (xaS cu))]) (rest := []) ⟨hx, hb, C0.2.2.1, hown, hts⟩ (qX1_keep l dC dI ad ci A ns hAD st ln sv kv cu cu hcu hcu hns  _ h) (cwV 1 hts gX6_wake_X1_keep rfl rfl rfl (by decide +kernel) ⟨Nat.le_of_ble_eq_true rfl, Nat.le_of_ble_eq_true rfl⟩) ⟨xk_blind, xr_recv (r := (RX1, TX1, 3)) hK hP 1 (xq_c (by decide)) xe_K rfl, xk_pre hP hK hN (fun q hq => hA q (Nat.le_trans hS.1 hq))⟩ rfl rfl hl.1 rfl (lv_room (Nat.le_of_ble_eq_true rfl)) dX6_wake_48 ⟨Nat.le_of_ble_eq_true rfl, Nat.le_of_ble_eq_true rfl⟩) hS (fun _ _ h => h) (fun _ h => h) (fun u9 t9 H locs ht hvm h hB _ _ hS => ?_)
      refine W.cs (cells' := 18) (slots' := 3323) rfl rfl ?_
      obtain ⟨st_6, kv_7⟩ := u9
      obtain ⟨ad, ns, hns, h0, hAD, hcu, hP⟩ := xB_th ht hB
      rw [← h0] at hl ⊢
      have hns : k_ns kv_7 = ns := hns
      have hP : va_P (dC, dI) vwCl (xw (xn ns) ad (xc ad ci st_6 ln sv kv_7 cu)) H := hP
      refine lv_aload_n hx hb dX6_wake_51 rfl (lv_at hl 1 rfl) ?_
      refine xr_get (D := (dC, dI)) (C := RX6) (T := TX6) (N := 4) (v := .ref (ad (xaS cu))) hx hb hts wX6_wake_c6 hown hK hP 0 (xq_c (by decide)) xe_X rfl 3 (by decide) wX6_wake_f33 rfl rfl dX6_wake_52 ?_
      refine xr_get (D := (dC, dI)) (C := RX4) (T := TX4) (N := 8) (v := .ref (ad (xaD0 cu))) hx hb hts wX6_wake_c4 hown hK hP (xaS cu) (xq_S hcu) (xe_S rfl) rfl 6 (by decide) wX6_wake_f65 rfl rfl dX6_wake_55 ?_
      refine lv_bipush (v := (7 : Int32)) hx hb dX6_wake_58 (by decide) ?_
      refine xr_aald (k := 7) (b := ad (xaD cu 7)) hx hb hK hP (xaD0 cu) 4 (xq_D0 hcu) xe_D0 rfl rfl rfl (x_in _ _ (by decide)) rfl dX6_wake_60 ?_
      refine lv_iload_n hx hb dX6_wake_61 rfl (lv_at hl 2 rfl) ?_
      refine lv_ldc2 (v := (-2000000005 : Int64)) hx hb hown (hts _ wX6_wake_k87) dX6_wake_62 ?_
      obtain ⟨g_8, h⟩ := h
      obtain ⟨st_9, est_9⟩ : ∃ z : Nat → StV, z = va_up st_6 cu (s_wdu (st_6 cu) 7 (x1.toNatClampNeg) (-2000000005 : Int64)) := ⟨_, rfl⟩
      have h := h st_9 est_9
      refine xr_last (k := x1.toNatClampNeg) (x := (-2000000005 : Int64)) (g := (xc ad ci st_9 ln sv kv_7 cu)) hx hb hK hP hAD hS (xaD cu 7) 1 (xq_D hcu (by decide)) (xe_D (by decide) rfl) rfl rfl g_8 dX6_wake_65 (xg_du (by decide) rfl est_9.symm) (fun H locs hP hS => ?_)
      refine lv_aload_n hx hb dX6_wake_66 rfl (lv_at hl 1 rfl) ?_
      refine xr_get (D := (dC, dI)) (C := RX6) (T := TX6) (N := 4) (v := .ref (ad (xaS cu))) hx hb hts wX6_wake_c6 hown hK hP 0 (xq_c (by decide)) xe_X rfl 3 (by decide) wX6_wake_f33 rfl rfl dX6_wake_67 ?_
      refine lv_iload_n hx hb dX6_wake_70 rfl (lv_at hl 2 rfl) ?_
      refine lv_aload_n hx hb dX6_wake_71 rfl (lv_at hl 1 rfl) ?_
      refine xr_get (D := (dC, dI)) (C := RX6) (T := TX6) (N := 4) (v := .ref (ad (xaS cu))) hx hb hts wX6_wake_c6 hown hK hP 0 (xq_c (by decide)) xe_X rfl 3 (by decide) wX6_wake_f33 rfl rfl dX6_wake_72 ?_
      refine xr_get (D := (dC, dI)) (C := RX4) (T := TX4) (N := 8) (v := .long (s_tm (st_9 cu))) hx hb hts wX6_wake_c4 hown hK hP (xaS cu) (xq_S hcu) (xe_S rfl) rfl 0 (by decide) wX6_wake_f108 rfl rfl dX6_wake_75 ?_
      refine lv_lload_n hx hb dX6_wake_78 rfl (lv_at hl 0 rfl) ?_
      refine lv_ladd hx hb dX6_wake_79 ?_
      have hP9 := x_e1 cu hP
      refine va_callv (va_runV (As := [.int x1, .long ((s_tm (st_9 cu)) + x2_4)]) (rest := []) ⟨hx, hb, C0.2.2.1, hown, hts⟩ (qX4_setTick l dC dI ad ci A ns hAD st_9 (st_9 cu) ln sv kv_7 cu cu hcu x1 ((s_tm (st_9 cu)) + x2_4) _ h) (cwV 2 hts gX6_wake_X4_setTick rfl rfl rfl (by decide +kernel) ⟨Nat.le_of_ble_eq_true rfl, Nat.le_of_ble_eq_true rfl⟩) ⟨xr_blind, xr_recv (r := (RX4, TX4, 8)) hK hP (xaS cu) (xq_S hcu) (xe_S rfl) rfl, xr_pre hP9 hK⟩ rfl rfl hl.1 rfl (lv_room (Nat.le_of_ble_eq_true rfl)) dX6_wake_80 ⟨Nat.le_of_ble_eq_true rfl, Nat.le_of_ble_eq_true rfl⟩) hS (fun _ _ h => h) (fun _ h => h) (fun v_10 t9 H locs ht hvm h hB _ _ hS => ?_)
      refine W.cs (cells' := 18) (slots' := 3323) rfl rfl ?_
      have hP := x_th ht hB
      have hP : va_P (dC, dI) vwCl (xw (xn ns) ad (xc ad ci (va_up st_9 cu v_10) ln sv kv_7 cu)) H := by exact hP
      obtain ⟨st_11, est_11⟩ : ∃ z : Nat → StV, z = va_up st_9 cu v_10 := ⟨_, rfl⟩
      have h := h st_11 est_11
      rw [← est_11] at hP
      refine lv_aload_n hx hb dX6_wake_83 rfl (lv_at hl 1 rfl) ?_
      refine xr_get (D := (dC, dI)) (C := RX6) (T := TX6) (N := 4) (v := .ref (ad (xaS cu))) hx hb hts wX6_wake_c6 hown hK hP 0 (xq_c (by decide)) xe_X rfl 3 (by decide) wX6_wake_f33 rfl rfl dX6_wake_84 ?_
      refine lv_iload_n hx hb dX6_wake_87 rfl (lv_at hl 2 rfl) ?_
      have hP9 := x_e1 cu hP
      refine va_callv (va_runV (As := [.int x1]) (rest := []) ⟨hx, hb, C0.2.2.1, hown, hts⟩ (qX4_setPlace l dC dI ad ci A ns hAD st_11 (st_11 cu) ln sv kv_7 cu cu hcu x1 _ h) (cwV 1 hts gX6_wake_X4_setPlace rfl rfl rfl (by decide +kernel) ⟨Nat.le_of_ble_eq_true rfl, Nat.le_of_ble_eq_true rfl⟩) ⟨xr_blind, xr_recv (r := (RX4, TX4, 8)) hK hP (xaS cu) (xq_S hcu) (xe_S rfl) rfl, xr_pre hP9 hK⟩ rfl rfl hl.1 rfl (lv_room (Nat.le_of_ble_eq_true rfl)) dX6_wake_88 ⟨Nat.le_of_ble_eq_true rfl, Nat.le_of_ble_eq_true rfl⟩) hS (fun _ _ h => h) (fun _ h => h) (fun v_12 t9 H locs ht hvm h hB _ _ hS => ?_)
      refine W.cs (cells' := 18) (slots' := 3323) rfl rfl ?_
      have hP := x_th ht hB
      have hP : va_P (dC, dI) vwCl (xw (xn ns) ad (xc ad ci (va_up st_11 cu v_12) ln sv kv_7 cu)) H := by exact hP
      obtain ⟨st_13, est_13⟩ : ∃ z : Nat → StV, z = va_up st_11 cu v_12 := ⟨_, rfl⟩
      have h := h st_13 est_13
      rw [← est_13] at hP
      refine lv_aload_n hx hb dX6_wake_91 rfl (lv_at hl 1 rfl) ?_
      refine xr_get (D := (dC, dI)) (C := RX6) (T := TX6) (N := 4) (v := .ref (ad (xaS cu))) hx hb hts wX6_wake_c6 hown hK hP 0 (xq_c (by decide)) xe_X rfl 3 (by decide) wX6_wake_f33 rfl rfl dX6_wake_92 ?_
      refine xr_get (D := (dC, dI)) (C := RX4) (T := TX4) (N := 8) (v := .ref (ad (xaD0 cu))) hx hb hts wX6_wake_c4 hown hK hP (xaS cu) (xq_S hcu) (xe_S rfl) rfl 6 (by decide) wX6_wake_f65 rfl rfl dX6_wake_95 ?_
      refine lv_iconst (v := (2 : Int32)) hx hb dX6_wake_98 (by decide) ?_
      refine xr_aald (k := 2) (b := ad (xaD cu 2)) hx hb hK hP (xaD0 cu) 4 (xq_D0 hcu) xe_D0 rfl rfl rfl (x_in _ _ (by decide)) rfl dX6_wake_99 ?_
      refine lv_iload_n hx hb dX6_wake_100 rfl (lv_at hl 2 rfl) ?_
      obtain ⟨g_14, h⟩ := h
      refine xr_lald (k := x1.toNatClampNeg) hx hb hK hP (xaD cu 2) 1 (xq_D hcu (by decide)) (xe_D (by decide) rfl) rfl rfl g_14 dX6_wake_101 ?_
      exact W.lret (v := (s_du (st_13 cu) 2 (x1.toNatClampNeg))) hx hb hr (fun t ht hW => ⟨⟨(s_du (st_13 cu) 2 (x1.toNatClampNeg)), (st_13, kv_7), rfl, h, ⟨ad, ns, hns, rfl, hAD, hcu, x_ht ht hP⟩⟩, hS.F ht⟩) hS.2.2 dX6_wake_102
    · have h := h.1 c_5
      refine lv_ldc2 (v := (-2000000002 : Int64)) hx hb hown (hts _ wX6_wake_k89) dX6_wake_36 ?_
      refine W.widen (k := 18) (n := 3323) (Nat.le_of_ble_eq_true rfl) (Nat.le_of_ble_eq_true rfl) ?_
      exact W.lret (v := (-2000000002 : Int64)) hx hb hr (fun t ht hW => ⟨⟨(-2000000002 : Int64), (st, kv), rfl, h, ⟨ad, ns, hns, rfl, hAD, hcu, x_ht ht hP⟩⟩, hS.F ht⟩) hS.2.2 dX6_wake_39
  · have h := h.1 c_2
    refine lv_ldc2 (v := (-2000000001 : Int64)) hx hb hown (hts _ wX6_wake_k41) dX6_wake_11 ?_
    refine W.widen (k := 18) (n := 3323) (Nat.le_of_ble_eq_true rfl) (Nat.le_of_ble_eq_true rfl) ?_
    exact W.lret (v := (-2000000001 : Int64)) hx hb hr (fun t ht hW => ⟨⟨(-2000000001 : Int64), (st, kv), rfl, h, ⟨ad, ns, hns, rfl, hAD, hcu, x_ht ht hP⟩⟩, hS.F ht⟩) hS.2.2 dX6_wake_14
abbrev rmX6_about : Room := { frames := 1, cells := 0, slots := 0, locals := 21 }
theorem wX6_about_k41 : Cond.constantLong RX6 41 (-2000000001) ∈ wsX6_about := by decide +kernel
theorem wX6_about_c4 : ∀ w ∈ u_ws RX4 TX4 8, w ∈ wsX6_about := by decide +kernel
theorem wX6_about_f65 : Cond.fieldLink RX6 65 "DueWheels$State" "dues" "[[J" ∈ wsX6_about := by decide +kernel
theorem wX6_about_c6 : ∀ w ∈ u_ws RX6 TX6 4, w ∈ wsX6_about := by decide +kernel
theorem wX6_about_f33 : Cond.fieldLink RX6 33 "DueWheels" "state" "LDueWheels$State;" ∈ wsX6_about := by decide +kernel
def PX6_about  (st : Nat → StV) (cu : Nat) (x1 : Int32) (x2 : Int32) (post : Int64 → Prop) : Prop :=
  (PX4_isDue (st cu) x1 (fun (r_1 : Int32) => ((r_1 = 0 → post (-2000000001 : Int64)) ∧ (¬ r_1 = 0 → ((x2 < 0 → post (-2000000001 : Int64)) ∧ (¬ x2 < 0 → ((x2 < (9 : Int32) → (vp_in x2 12 ∧ (vp_in x1 200 ∧ post (s_du (st cu) x2.toNatClampNeg (x1.toNatClampNeg))))) ∧ (¬ x2 < (9 : Int32) → post (-2000000001 : Int64)))))))))
set_option maxHeartbeats 4000000 in
set_option maxRecDepth 100000 in
theorem qX6_about (l : Launch) (dC : Nat → ClassId) (dI : Nat → Nat → Nat) (ci : Nat → ClassId) (A : Nat → Prop) (a0 : Nat) (st : Nat → StV) (ln : Nat → LnV) (sv : SvV) (kv : KvV) (cu : Nat) (x1 : Int32) (x2 : Int32) (post : Int64 → Prop) (h : PX6_about st cu x1 x2 post) : Met l yX6_about wsX6_about rmX6_about (va_Pc [.ref a0, .int x1, .int x2] (xPre (dC, dI) ci A (xB (dC, dI) ci A a0 st ln sv kv cu))) (va_Ql (fun r9 (u : Unit) => post r9 ) (fun u t => xB (dC, dI) ci A a0 st ln sv kv cu t.heap) A) 0 0 A := by
  refine Met.ofW (cc := cX6_about) (maxL := 3) (ret := (some .long)) (by decide) rfl ?_
  intro p e s m args below meth c s₁ B hml hv
  obtain ⟨eargs, hP, hK, hN, hA⟩ := hv
  obtain ⟨ad, ns, hns, h0, hAD, hcu, hP⟩ := hP
  subst h0
  have C0 : xC p s m args meth c cX6_about 3 (some .long) RX6 wsX6_about (dC, dI) (xT ci) := ⟨B.exec, B.bytes, hml, B.returns, B.notSynchronized, findClass_of_methodNamed B.named, atoms_spec (ws := wsX6_about) B.pre, hK⟩
  obtain ⟨hx, hb, -, hr, hlocks, hown, hts, -⟩ := id C0
  have hS : va_S A s.heap s.heap [] := va_S.rf
  have hl := lv_entry ([.ref (ad 0), .int x1, .int x2]) (n := 3) (Nat.le_of_ble_eq_true rfl)
  have ef : entryFrame m args 3 = entryFrame m ([.ref (ad 0), .int x1, .int x2] : List Value).toArray 3 := by rw [eargs]
  rw [ef, lg_entry_eq]
  generalize (lg_sl ([.ref (ad 0), .int x1, .int x2]) ++ List.replicate (3 - (lg_sl ([.ref (ad 0), .int x1, .int x2])).length) Slot.unset).toArray = ls at hl ⊢
  have hl : lv_has ls 3 [(0, .ref (ad 0)), (1, .int x1), (2, .int x2)] := hl
  have hP : va_P (dC, dI) vwCl (xw (xn ns) ad (xc ad ci st ln sv kv cu)) s.heap := hP
  unfold PX6_about at h
  refine lv_aload_n hx hb dX6_about_0 rfl (lv_at hl 0 rfl) ?_
  refine xr_get (D := (dC, dI)) (C := RX6) (T := TX6) (N := 4) (v := .ref (ad (xaS cu))) hx hb hts wX6_about_c6 hown hK hP 0 (xq_c (by decide)) xe_X rfl 3 (by decide) wX6_about_f33 rfl rfl dX6_about_1 ?_
  refine lv_iload_n hx hb dX6_about_4 rfl (lv_at hl 1 rfl) ?_
  have hP9 := x_e1 cu hP
  refine va_calli (va_runV (As := [.int x1]) (rest := []) ⟨hx, hb, C0.2.2.1, hown, hts⟩ (qX4_isDue l dC dI ad ci A ns hAD st (st cu) ln sv kv cu cu hcu x1 _ h) (cwV 1 hts gX6_about_X4_isDue rfl rfl rfl (by decide +kernel) ⟨Nat.le_of_ble_eq_true rfl, Nat.le_of_ble_eq_true rfl⟩) ⟨xr_blind, xr_recv (r := (RX4, TX4, 8)) hK hP (xaS cu) (xq_S hcu) (xe_S rfl) rfl, xr_pre hP9 hK⟩ rfl rfl hl.1 rfl (lv_room (Nat.le_of_ble_eq_true rfl)) dX6_about_5 ⟨Nat.le_of_ble_eq_true rfl, Nat.le_of_ble_eq_true rfl⟩) hS (fun _ _ h => h) (fun _ h => h) (fun r_1 _ t9 H locs ht hvm h hB _ _ hS => ?_)
  refine W.cs (cells' := 0) (slots' := 0) rfl rfl ?_
  have hP := x_th ht hB
  have hP : va_P (dC, dI) vwCl (xw (xn ns) ad (xc ad ci st ln sv kv cu)) H := by simp only [x_eta] at hP; exact hP
  refine lv_if_eq (tgt := 21) hx hb dX6_about_8 (by decide) (fun c_2 => ?_) (fun c_2 => ?_)
  · have h := h.1 c_2
    refine lv_ldc2 (v := (-2000000001 : Int64)) hx hb hown (hts _ wX6_about_k41) dX6_about_21 ?_
    exact W.lret (v := (-2000000001 : Int64)) hx hb hr (fun t ht hW => ⟨⟨(-2000000001 : Int64), (), rfl, h, ⟨ad, ns, hns, rfl, hAD, hcu, x_ht ht hP⟩⟩, hS.F ht⟩) hS.2.2 dX6_about_24
  · have h := h.2 c_2
    refine lv_iload_n hx hb dX6_about_11 rfl (lv_at hl 2 rfl) ?_
    refine lv_if_lt (tgt := 21) hx hb dX6_about_12 (by decide) (fun c_3 => ?_) (fun c_3 => ?_)
    · have h := h.1 c_3
      refine lv_ldc2 (v := (-2000000001 : Int64)) hx hb hown (hts _ wX6_about_k41) dX6_about_21 ?_
      exact W.lret (v := (-2000000001 : Int64)) hx hb hr (fun t ht hW => ⟨⟨(-2000000001 : Int64), (), rfl, h, ⟨ad, ns, hns, rfl, hAD, hcu, x_ht ht hP⟩⟩, hS.F ht⟩) hS.2.2 dX6_about_24
    · have h := h.2 c_3
      refine lv_iload_n hx hb dX6_about_15 rfl (lv_at hl 2 rfl) ?_
      refine lv_bipush (v := (9 : Int32)) hx hb dX6_about_16 (by decide) ?_
      refine lv_icmp_lt (tgt := 25) hx hb dX6_about_18 (by decide) (fun c_4 => ?_) (fun c_4 => ?_)
      · have h := h.1 c_4
        refine lv_aload_n hx hb dX6_about_25 rfl (lv_at hl 0 rfl) ?_
        refine xr_get (D := (dC, dI)) (C := RX6) (T := TX6) (N := 4) (v := .ref (ad (xaS cu))) hx hb hts wX6_about_c6 hown hK hP 0 (xq_c (by decide)) xe_X rfl 3 (by decide) wX6_about_f33 rfl rfl dX6_about_26 ?_
        refine xr_get (D := (dC, dI)) (C := RX4) (T := TX4) (N := 8) (v := .ref (ad (xaD0 cu))) hx hb hts wX6_about_c4 hown hK hP (xaS cu) (xq_S hcu) (xe_S rfl) rfl 6 (by decide) wX6_about_f65 rfl rfl dX6_about_29 ?_
        refine lv_iload_n hx hb dX6_about_32 rfl (lv_at hl 2 rfl) ?_
        obtain ⟨g_5, h⟩ := h
        refine xr_aald (k := x2.toNatClampNeg) (b := ad (xaD cu x2.toNatClampNeg)) hx hb hK hP (xaD0 cu) 4 (xq_D0 hcu) xe_D0 rfl rfl rfl g_5 rfl dX6_about_33 ?_
        refine lv_iload_n hx hb dX6_about_34 rfl (lv_at hl 1 rfl) ?_
        obtain ⟨g_6, h⟩ := h
        refine xr_lald (k := x1.toNatClampNeg) hx hb hK hP (xaD cu x2.toNatClampNeg) 1 (xq_D hcu (x_lt g_5)) (xe_D (x_lt g_5) rfl) rfl rfl g_6 dX6_about_35 ?_
        exact W.lret (v := (s_du (st cu) x2.toNatClampNeg (x1.toNatClampNeg))) hx hb hr (fun t ht hW => ⟨⟨(s_du (st cu) x2.toNatClampNeg (x1.toNatClampNeg)), (), rfl, h, ⟨ad, ns, hns, rfl, hAD, hcu, x_ht ht hP⟩⟩, hS.F ht⟩) hS.2.2 dX6_about_36
      · have h := h.2 c_4
        refine lv_ldc2 (v := (-2000000001 : Int64)) hx hb hown (hts _ wX6_about_k41) dX6_about_21 ?_
        exact W.lret (v := (-2000000001 : Int64)) hx hb hr (fun t ht hW => ⟨⟨(-2000000001 : Int64), (), rfl, h, ⟨ad, ns, hns, rfl, hAD, hcu, x_ht ht hP⟩⟩, hS.F ht⟩) hS.2.2 dX6_about_24
abbrev rmX6_isOf : Room := { frames := 1, cells := 0, slots := 0, locals := 21 }
theorem wX6_isOf_k41 : Cond.constantLong RX6 41 (-2000000001) ∈ wsX6_isOf := by decide +kernel
theorem wX6_isOf_k106 : Cond.constantLong RX6 106 (4) ∈ wsX6_isOf := by decide +kernel
theorem wX6_isOf_c4 : ∀ w ∈ u_ws RX4 TX4 8, w ∈ wsX6_isOf := by decide +kernel
theorem wX6_isOf_f65 : Cond.fieldLink RX6 65 "DueWheels$State" "dues" "[[J" ∈ wsX6_isOf := by decide +kernel
theorem wX6_isOf_c6 : ∀ w ∈ u_ws RX6 TX6 4, w ∈ wsX6_isOf := by decide +kernel
theorem wX6_isOf_f33 : Cond.fieldLink RX6 33 "DueWheels" "state" "LDueWheels$State;" ∈ wsX6_isOf := by decide +kernel
def PX6_isOf  (st : Nat → StV) (cu : Nat) (x1 : Int32) (x2 : Int32) (post : Int64 → Prop) : Prop :=
  (PX4_isDue (st cu) x1 (fun (r_1 : Int32) => ((r_1 = 0 → post (-2000000001 : Int64)) ∧ (¬ r_1 = 0 → ((x2 < 0 → post (-2000000001 : Int64)) ∧ (¬ x2 < 0 → ((x2 < (5 : Int32) → (vp_in x1 200 ∧ ∀ x3_6 : Int64, x3_6 = (s_du (st cu) 0 (x1.toNatClampNeg)) → ((x3_6 = (x2.toInt64) → post (1 : Int64)) ∧ (¬ x3_6 = (x2.toInt64) → ((x3_6 = (4 : Int64) → ((x2 = (1 : Int32) → post (1 : Int64)) ∧ (¬ x2 = (1 : Int32) → post (0 : Int64)))) ∧ (¬ x3_6 = (4 : Int64) → post (0 : Int64))))))) ∧ (¬ x2 < (5 : Int32) → post (-2000000001 : Int64)))))))))
set_option maxHeartbeats 4000000 in
set_option maxRecDepth 100000 in
theorem qX6_isOf (l : Launch) (dC : Nat → ClassId) (dI : Nat → Nat → Nat) (ci : Nat → ClassId) (A : Nat → Prop) (a0 : Nat) (st : Nat → StV) (ln : Nat → LnV) (sv : SvV) (kv : KvV) (cu : Nat) (x1 : Int32) (x2 : Int32) (post : Int64 → Prop) (h : PX6_isOf st cu x1 x2 post) : Met l yX6_isOf wsX6_isOf rmX6_isOf (va_Pc [.ref a0, .int x1, .int x2] (xPre (dC, dI) ci A (xB (dC, dI) ci A a0 st ln sv kv cu))) (va_Ql (fun r9 (u : Unit) => post r9 ) (fun u t => xB (dC, dI) ci A a0 st ln sv kv cu t.heap) A) 0 0 A := by
  refine Met.ofW (cc := cX6_isOf) (maxL := 5) (ret := (some .long)) (by decide) rfl ?_
  intro p e s m args below meth c s₁ B hml hv
  obtain ⟨eargs, hP, hK, hN, hA⟩ := hv
  obtain ⟨ad, ns, hns, h0, hAD, hcu, hP⟩ := hP
  subst h0
  have C0 : xC p s m args meth c cX6_isOf 5 (some .long) RX6 wsX6_isOf (dC, dI) (xT ci) := ⟨B.exec, B.bytes, hml, B.returns, B.notSynchronized, findClass_of_methodNamed B.named, atoms_spec (ws := wsX6_isOf) B.pre, hK⟩
  obtain ⟨hx, hb, -, hr, hlocks, hown, hts, -⟩ := id C0
  have hS : va_S A s.heap s.heap [] := va_S.rf
  have hl := lv_entry ([.ref (ad 0), .int x1, .int x2]) (n := 5) (Nat.le_of_ble_eq_true rfl)
  have ef : entryFrame m args 5 = entryFrame m ([.ref (ad 0), .int x1, .int x2] : List Value).toArray 5 := by rw [eargs]
  rw [ef, lg_entry_eq]
  generalize (lg_sl ([.ref (ad 0), .int x1, .int x2]) ++ List.replicate (5 - (lg_sl ([.ref (ad 0), .int x1, .int x2])).length) Slot.unset).toArray = ls at hl ⊢
  have hl : lv_has ls 5 [(0, .ref (ad 0)), (1, .int x1), (2, .int x2)] := hl
  have hP : va_P (dC, dI) vwCl (xw (xn ns) ad (xc ad ci st ln sv kv cu)) s.heap := hP
  unfold PX6_isOf at h
  refine lv_aload_n hx hb dX6_isOf_0 rfl (lv_at hl 0 rfl) ?_
  refine xr_get (D := (dC, dI)) (C := RX6) (T := TX6) (N := 4) (v := .ref (ad (xaS cu))) hx hb hts wX6_isOf_c6 hown hK hP 0 (xq_c (by decide)) xe_X rfl 3 (by decide) wX6_isOf_f33 rfl rfl dX6_isOf_1 ?_
  refine lv_iload_n hx hb dX6_isOf_4 rfl (lv_at hl 1 rfl) ?_
  have hP9 := x_e1 cu hP
  refine va_calli (va_runV (As := [.int x1]) (rest := []) ⟨hx, hb, C0.2.2.1, hown, hts⟩ (qX4_isDue l dC dI ad ci A ns hAD st (st cu) ln sv kv cu cu hcu x1 _ h) (cwV 1 hts gX6_isOf_X4_isDue rfl rfl rfl (by decide +kernel) ⟨Nat.le_of_ble_eq_true rfl, Nat.le_of_ble_eq_true rfl⟩) ⟨xr_blind, xr_recv (r := (RX4, TX4, 8)) hK hP (xaS cu) (xq_S hcu) (xe_S rfl) rfl, xr_pre hP9 hK⟩ rfl rfl hl.1 rfl (lv_room (Nat.le_of_ble_eq_true rfl)) dX6_isOf_5 ⟨Nat.le_of_ble_eq_true rfl, Nat.le_of_ble_eq_true rfl⟩) hS (fun _ _ h => h) (fun _ h => h) (fun r_1 _ t9 H locs ht hvm h hB _ _ hS => ?_)
  refine W.cs (cells' := 0) (slots' := 0) rfl rfl ?_
  have hP := x_th ht hB
  have hP : va_P (dC, dI) vwCl (xw (xn ns) ad (xc ad ci st ln sv kv cu)) H := by simp only [x_eta] at hP; exact hP
  refine lv_if_eq (tgt := 20) hx hb dX6_isOf_8 (by decide) (fun c_2 => ?_) (fun c_2 => ?_)
  · have h := h.1 c_2
    refine lv_ldc2 (v := (-2000000001 : Int64)) hx hb hown (hts _ wX6_isOf_k41) dX6_isOf_20 ?_
    exact W.lret (v := (-2000000001 : Int64)) hx hb hr (fun t ht hW => ⟨⟨(-2000000001 : Int64), (), rfl, h, ⟨ad, ns, hns, rfl, hAD, hcu, x_ht ht hP⟩⟩, hS.F ht⟩) hS.2.2 dX6_isOf_23
  · have h := h.2 c_2
    refine lv_iload_n hx hb dX6_isOf_11 rfl (lv_at hl 2 rfl) ?_
    refine lv_if_lt (tgt := 20) hx hb dX6_isOf_12 (by decide) (fun c_3 => ?_) (fun c_3 => ?_)
    · have h := h.1 c_3
      refine lv_ldc2 (v := (-2000000001 : Int64)) hx hb hown (hts _ wX6_isOf_k41) dX6_isOf_20 ?_
      exact W.lret (v := (-2000000001 : Int64)) hx hb hr (fun t ht hW => ⟨⟨(-2000000001 : Int64), (), rfl, h, ⟨ad, ns, hns, rfl, hAD, hcu, x_ht ht hP⟩⟩, hS.F ht⟩) hS.2.2 dX6_isOf_23
    · have h := h.2 c_3
      refine lv_iload_n hx hb dX6_isOf_15 rfl (lv_at hl 2 rfl) ?_
      refine lv_iconst (v := (5 : Int32)) hx hb dX6_isOf_16 (by decide) ?_
      refine lv_icmp_lt (tgt := 24) hx hb dX6_isOf_17 (by decide) (fun c_4 => ?_) (fun c_4 => ?_)
      · have h := h.1 c_4
        refine lv_aload_n hx hb dX6_isOf_24 rfl (lv_at hl 0 rfl) ?_
        refine xr_get (D := (dC, dI)) (C := RX6) (T := TX6) (N := 4) (v := .ref (ad (xaS cu))) hx hb hts wX6_isOf_c6 hown hK hP 0 (xq_c (by decide)) xe_X rfl 3 (by decide) wX6_isOf_f33 rfl rfl dX6_isOf_25 ?_
        refine xr_get (D := (dC, dI)) (C := RX4) (T := TX4) (N := 8) (v := .ref (ad (xaD0 cu))) hx hb hts wX6_isOf_c4 hown hK hP (xaS cu) (xq_S hcu) (xe_S rfl) rfl 6 (by decide) wX6_isOf_f65 rfl rfl dX6_isOf_28 ?_
        refine lv_iconst (v := (0 : Int32)) hx hb dX6_isOf_31 (by decide) ?_
        refine xr_aald (k := 0) (b := ad (xaD cu 0)) hx hb hK hP (xaD0 cu) 4 (xq_D0 hcu) xe_D0 rfl rfl rfl (x_in _ _ (by decide)) rfl dX6_isOf_32 ?_
        refine lv_iload_n hx hb dX6_isOf_33 rfl (lv_at hl 1 rfl) ?_
        obtain ⟨g_5, h⟩ := h
        refine xr_lald (k := x1.toNatClampNeg) hx hb hK hP (xaD cu 0) 1 (xq_D hcu (by decide)) (xe_D (by decide) rfl) rfl rfl g_5 dX6_isOf_34 ?_
        refine lv_topl (fun x3_6 ex3_6 => ?_)
        have h := h x3_6 ex3_6
        refine lv_lstore_n (lv' := [(3, .long x3_6), (0, .ref (ad 0)), (1, .int x1), (2, .int x2)]) hx hb dX6_isOf_35 rfl hl (by decide) rfl (fun ls hl => ?_)
        refine lv_lload_n hx hb dX6_isOf_36 rfl (lv_at hl 0 rfl) ?_
        refine lv_iload_n hx hb dX6_isOf_37 rfl (lv_at hl 3 rfl) ?_
        refine lv_i2l hx hb dX6_isOf_38 rfl ?_
        refine xr_if_lcmp_eq (tgt := 56) hx hb dX6_isOf_39 dX6_isOf_40 (by decide) (fun c_7 => ?_) (fun c_7 => ?_)
        · have h := h.1 c_7
          refine lv_lconst (v := (1 : Int64)) hx hb dX6_isOf_56 (by decide) ?_
          refine lv_goto (tgt := 61) hx hb dX6_isOf_57 (by decide) ?_
          exact W.lret (v := (1 : Int64)) hx hb hr (fun t ht hW => ⟨⟨(1 : Int64), (), rfl, h, ⟨ad, ns, hns, rfl, hAD, hcu, x_ht ht hP⟩⟩, hS.F ht⟩) hS.2.2 dX6_isOf_61
        · have h := h.2 c_7
          refine lv_lload_n hx hb dX6_isOf_43 rfl (lv_at hl 0 rfl) ?_
          refine lv_ldc2 (v := (4 : Int64)) hx hb hown (hts _ wX6_isOf_k106) dX6_isOf_44 ?_
          refine xr_if_lcmp_ne (tgt := 60) hx hb dX6_isOf_47 dX6_isOf_48 (by decide) (fun c_8 => ?_) (fun c_8 => ?_)
          · have h := h.2 c_8
            refine lv_lconst (v := (0 : Int64)) hx hb dX6_isOf_60 (by decide) ?_
            exact W.lret (v := (0 : Int64)) hx hb hr (fun t ht hW => ⟨⟨(0 : Int64), (), rfl, h, ⟨ad, ns, hns, rfl, hAD, hcu, x_ht ht hP⟩⟩, hS.F ht⟩) hS.2.2 dX6_isOf_61
          · have h := h.1 c_8
            refine lv_iload_n hx hb dX6_isOf_51 rfl (lv_at hl 3 rfl) ?_
            refine lv_iconst (v := (1 : Int32)) hx hb dX6_isOf_52 (by decide) ?_
            refine lv_icmp_ne (tgt := 60) hx hb dX6_isOf_53 (by decide) (fun c_9 => ?_) (fun c_9 => ?_)
            · have h := h.2 c_9
              refine lv_lconst (v := (0 : Int64)) hx hb dX6_isOf_60 (by decide) ?_
              exact W.lret (v := (0 : Int64)) hx hb hr (fun t ht hW => ⟨⟨(0 : Int64), (), rfl, h, ⟨ad, ns, hns, rfl, hAD, hcu, x_ht ht hP⟩⟩, hS.F ht⟩) hS.2.2 dX6_isOf_61
            · have h := h.1 c_9
              refine lv_lconst (v := (1 : Int64)) hx hb dX6_isOf_56 (by decide) ?_
              refine lv_goto (tgt := 61) hx hb dX6_isOf_57 (by decide) ?_
              exact W.lret (v := (1 : Int64)) hx hb hr (fun t ht hW => ⟨⟨(1 : Int64), (), rfl, h, ⟨ad, ns, hns, rfl, hAD, hcu, x_ht ht hP⟩⟩, hS.F ht⟩) hS.2.2 dX6_isOf_61
      · have h := h.2 c_4
        refine lv_ldc2 (v := (-2000000001 : Int64)) hx hb hown (hts _ wX6_isOf_k41) dX6_isOf_20 ?_
        exact W.lret (v := (-2000000001 : Int64)) hx hb hr (fun t ht hW => ⟨⟨(-2000000001 : Int64), (), rfl, h, ⟨ad, ns, hns, rfl, hAD, hcu, x_ht ht hP⟩⟩, hS.F ht⟩) hS.2.2 dX6_isOf_23
abbrev rmX6_go : Room := { frames := 6, cells := 18, slots := 3323, locals := 160 }
theorem wX6_go_k41 : Cond.constantLong RX6 41 (-2000000001) ∈ wsX6_go := by decide +kernel
theorem wX6_go_k112 : Cond.constantLong RX6 112 (1125899906842623) ∈ wsX6_go := by decide +kernel
theorem wX6_go_c4 : ∀ w ∈ u_ws RX4 TX4 8, w ∈ wsX6_go := by decide +kernel
theorem wX6_go_f108 : Cond.fieldLink RX6 108 "DueWheels$State" "time" "J" ∈ wsX6_go := by decide +kernel
theorem wX6_go_c6 : ∀ w ∈ u_ws RX6 TX6 4, w ∈ wsX6_go := by decide +kernel
theorem wX6_go_f33 : Cond.fieldLink RX6 33 "DueWheels" "state" "LDueWheels$State;" ∈ wsX6_go := by decide +kernel
theorem wX6_go_f19 : Cond.fieldLink RX6 19 "DueWheels" "going" "LDueWheels$Going;" ∈ wsX6_go := by decide +kernel
theorem wX6_go_f10 : Cond.fieldLink RX6 10 "DueWheels" "kept" "LDueWheels$Kept;" ∈ wsX6_go := by decide +kernel
def PX6_go  (st : Nat → StV) (ln : Nat → LnV) (kv : KvV) (cu : Nat) (x1 : Int64) (post : Int64 → (Nat → StV) → (Nat → LnV) → KvV → Prop) : Prop :=
  ((x1 < (s_tm (st cu)) → post (-2000000001 : Int64) st ln kv) ∧ (¬ x1 < (s_tm (st cu)) → ((x1 ≤ (1125899906842623 : Int64) → (PX1_keep cu st kv (fun (st_3 : Nat → StV) (kv_4 : KvV) => (PX0_goOn (st_3 cu) (ln 0) x1 (fun (v_5 : StV) (w_7 : LnV) => ∀ st_6 : Nat → StV, st_6 = va_up st_3 cu v_5 → ∀ ln_8 : Nat → LnV, ln_8 = va_up ln 0 w_7 → post (s_tm (st_6 cu)) st_6 ln_8 kv_4))))) ∧ (¬ x1 ≤ (1125899906842623 : Int64) → post (-2000000001 : Int64) st ln kv))))
set_option maxHeartbeats 4000000 in
set_option maxRecDepth 100000 in
theorem qX6_go (l : Launch) (dC : Nat → ClassId) (dI : Nat → Nat → Nat) (ci : Nat → ClassId) (A : Nat → Prop) (a0 : Nat) (st : Nat → StV) (ln : Nat → LnV) (sv : SvV) (kv : KvV) (cu : Nat) (x1 : Int64) (post : Int64 → (Nat → StV) → (Nat → LnV) → KvV → Prop) (h : PX6_go st ln kv cu x1 post) : Met l yX6_go wsX6_go rmX6_go (va_Pc [.ref a0, .long x1] (xPre (dC, dI) ci A (xB (dC, dI) ci A a0 st ln sv kv cu))) (va_Ql (fun r9 (u : (Nat → StV) × (Nat → LnV) × KvV) => post r9 (u.1) (u.2.1) (u.2.2)) (fun u t => xB (dC, dI) ci A a0 (u.1) (u.2.1) sv (u.2.2) cu t.heap) A) 18 3323 A := by
  refine Met.ofW (cc := cX6_go) (maxL := 3) (ret := (some .long)) (by decide) rfl ?_
  intro p e s m args below meth c s₁ B hml hv
  obtain ⟨eargs, hP, hK, hN, hA⟩ := hv
  obtain ⟨ad, ns, hns, h0, hAD, hcu, hP⟩ := hP
  subst h0
  have C0 : xC p s m args meth c cX6_go 3 (some .long) RX6 wsX6_go (dC, dI) (xT ci) := ⟨B.exec, B.bytes, hml, B.returns, B.notSynchronized, findClass_of_methodNamed B.named, atoms_spec (ws := wsX6_go) B.pre, hK⟩
  obtain ⟨hx, hb, -, hr, hlocks, hown, hts, -⟩ := id C0
  have hS : va_S A s.heap s.heap [] := va_S.rf
  have hl := lv_entry ([.ref (ad 0), .long x1]) (n := 3) (Nat.le_of_ble_eq_true rfl)
  have ef : entryFrame m args 3 = entryFrame m ([.ref (ad 0), .long x1] : List Value).toArray 3 := by rw [eargs]
  rw [ef, lg_entry_eq]
  generalize (lg_sl ([.ref (ad 0), .long x1]) ++ List.replicate (3 - (lg_sl ([.ref (ad 0), .long x1])).length) Slot.unset).toArray = ls at hl ⊢
  have hl : lv_has ls 3 [(0, .ref (ad 0)), (1, .long x1)] := hl
  have hP : va_P (dC, dI) vwCl (xw (xn ns) ad (xc ad ci st ln sv kv cu)) s.heap := hP
  unfold PX6_go at h
  refine lv_lload_n hx hb dX6_go_0 rfl (lv_at hl 1 rfl) ?_
  refine lv_aload_n hx hb dX6_go_1 rfl (lv_at hl 0 rfl) ?_
  refine xr_get (D := (dC, dI)) (C := RX6) (T := TX6) (N := 4) (v := .ref (ad (xaS cu))) hx hb hts wX6_go_c6 hown hK hP 0 (xq_c (by decide)) xe_X rfl 3 (by decide) wX6_go_f33 rfl rfl dX6_go_2 ?_
  refine xr_get (D := (dC, dI)) (C := RX4) (T := TX4) (N := 8) (v := .long (s_tm (st cu))) hx hb hts wX6_go_c4 hown hK hP (xaS cu) (xq_S hcu) (xe_S rfl) rfl 0 (by decide) wX6_go_f108 rfl rfl dX6_go_5 ?_
  refine xr_if_lcmp_lt (tgt := 20) hx hb dX6_go_8 dX6_go_9 (by decide) (fun c_1 => ?_) (fun c_1 => ?_)
  · have h := h.1 c_1
    refine lv_ldc2 (v := (-2000000001 : Int64)) hx hb hown (hts _ wX6_go_k41) dX6_go_20 ?_
    refine W.widen (k := 18) (n := 3323) (Nat.le_of_ble_eq_true rfl) (Nat.le_of_ble_eq_true rfl) ?_
    exact W.lret (v := (-2000000001 : Int64)) hx hb hr (fun t ht hW => ⟨⟨(-2000000001 : Int64), (st, ln, kv), rfl, h, ⟨ad, ns, hns, rfl, hAD, hcu, x_ht ht hP⟩⟩, hS.F ht⟩) hS.2.2 dX6_go_23
  · have h := h.2 c_1
    refine lv_lload_n hx hb dX6_go_12 rfl (lv_at hl 1 rfl) ?_
    refine lv_ldc2 (v := (1125899906842623 : Int64)) hx hb hown (hts _ wX6_go_k112) dX6_go_13 ?_
    refine xr_if_lcmp_le (tgt := 24) hx hb dX6_go_16 dX6_go_17 (by decide) (fun c_2 => ?_) (fun c_2 => ?_)
    · have h := h.1 c_2
      refine lv_aload_n hx hb dX6_go_24 rfl (lv_at hl 0 rfl) ?_
      refine xr_get (D := (dC, dI)) (C := RX6) (T := TX6) (N := 4) (v := .ref (ad 1)) hx hb hts wX6_go_c6 hown hK hP 0 (xq_c (by decide)) xe_X rfl 0 (by decide) wX6_go_f10 rfl rfl dX6_go_25 ?_
      refine lv_aload_n hx hb dX6_go_28 rfl (lv_at hl 0 rfl) ?_
      refine xr_get (D := (dC, dI)) (C := RX6) (T := TX6) (N := 4) (v := .ref (ad (xaS cu))) hx hb hts wX6_go_c6 hown hK hP 0 (xq_c (by decide)) xe_X rfl 3 (by decide) wX6_go_f33 rfl rfl dX6_go_29 ?_
      refine va_callv (va_runV (As := [.ref (ad (xaS cu))]) (rest := []) ⟨hx, hb, C0.2.2.1, hown, hts⟩ (qX1_keep l dC dI ad ci A ns hAD st ln sv kv cu cu hcu hcu hns  _ h) (cwV 1 hts gX6_go_X1_keep rfl rfl rfl (by decide +kernel) ⟨Nat.le_of_ble_eq_true rfl, Nat.le_of_ble_eq_true rfl⟩) ⟨xk_blind, xr_recv (r := (RX1, TX1, 3)) hK hP 1 (xq_c (by decide)) xe_K rfl, xk_pre hP hK hN (fun q hq => hA q (Nat.le_trans hS.1 hq))⟩ rfl rfl hl.1 rfl (lv_room (Nat.le_of_ble_eq_true rfl)) dX6_go_32 ⟨Nat.le_of_ble_eq_true rfl, Nat.le_of_ble_eq_true rfl⟩) hS (fun _ _ h => h) (fun _ h => h) (fun u9 t9 H locs ht hvm h hB _ _ hS => ?_)
      refine W.cs (cells' := 18) (slots' := 3323) rfl rfl ?_
      obtain ⟨st_3, kv_4⟩ := u9
      obtain ⟨ad, ns, hns, h0, hAD, hcu, hP⟩ := xB_th ht hB
      rw [← h0] at hl ⊢
      have hns : k_ns kv_4 = ns := hns
      have hP : va_P (dC, dI) vwCl (xw (xn ns) ad (xc ad ci st_3 ln sv kv_4 cu)) H := hP
      refine lv_aload_n hx hb dX6_go_35 rfl (lv_at hl 0 rfl) ?_
      refine xr_get (D := (dC, dI)) (C := RX6) (T := TX6) (N := 4) (v := .ref (ad 3)) hx hb hts wX6_go_c6 hown hK hP 0 (xq_c (by decide)) xe_X rfl 1 (by decide) wX6_go_f19 rfl rfl dX6_go_36 ?_
      refine lv_aload_n hx hb dX6_go_39 rfl (lv_at hl 0 rfl) ?_
      refine xr_get (D := (dC, dI)) (C := RX6) (T := TX6) (N := 4) (v := .ref (ad (xaS cu))) hx hb hts wX6_go_c6 hown hK hP 0 (xq_c (by decide)) xe_X rfl 3 (by decide) wX6_go_f33 rfl rfl dX6_go_40 ?_
      refine lv_lload_n hx hb dX6_go_43 rfl (lv_at hl 1 rfl) ?_
      have hP9 := x_e3 cu 0 hP
      refine va_callv (va_runV (As := [.ref (ad (xaS cu)), .long x1]) (rest := []) ⟨hx, hb, C0.2.2.1, hown, hts⟩ (qX0_goOn l dC dI ad ci A ns hAD st_3 (st_3 cu) ln (ln 0) sv kv_4 cu cu hcu x1 _ h) (cwV 2 hts gX6_go_X0_goOn rfl rfl rfl (by decide +kernel) ⟨Nat.le_of_ble_eq_true rfl, Nat.le_of_ble_eq_true rfl⟩) ⟨xr_blind, xr_recv (r := (RX0, TX0, 1)) hK hP 3 (xq_c (by decide)) xe_G rfl, xr_pre hP9 hK⟩ rfl rfl hl.1 rfl (lv_room (Nat.le_of_ble_eq_true rfl)) dX6_go_44 ⟨Nat.le_of_ble_eq_true rfl, Nat.le_of_ble_eq_true rfl⟩) hS (fun _ _ h => h) (fun _ h => h) (fun u9 t9 H locs ht hvm h hB _ _ hS => ?_)
      refine W.cs (cells' := 18) (slots' := 3323) rfl rfl ?_
      obtain ⟨v_5, w_7⟩ := u9
      have hP := x_th ht hB
      have hP : va_P (dC, dI) vwCl (xw (xn ns) ad (xc ad ci (va_up st_3 cu v_5) (va_up ln 0 w_7) sv kv_4 cu)) H := by exact hP
      obtain ⟨st_6, est_6⟩ : ∃ z : Nat → StV, z = va_up st_3 cu v_5 := ⟨_, rfl⟩
      have h := h st_6 est_6
      rw [← est_6] at hP
      obtain ⟨ln_8, eln_8⟩ : ∃ z : Nat → LnV, z = va_up ln 0 w_7 := ⟨_, rfl⟩
      have h := h ln_8 eln_8
      rw [← eln_8] at hP
      refine lv_aload_n hx hb dX6_go_47 rfl (lv_at hl 0 rfl) ?_
      refine xr_get (D := (dC, dI)) (C := RX6) (T := TX6) (N := 4) (v := .ref (ad (xaS cu))) hx hb hts wX6_go_c6 hown hK hP 0 (xq_c (by decide)) xe_X rfl 3 (by decide) wX6_go_f33 rfl rfl dX6_go_48 ?_
      refine xr_get (D := (dC, dI)) (C := RX4) (T := TX4) (N := 8) (v := .long (s_tm (st_6 cu))) hx hb hts wX6_go_c4 hown hK hP (xaS cu) (xq_S hcu) (xe_S rfl) rfl 0 (by decide) wX6_go_f108 rfl rfl dX6_go_51 ?_
      exact W.lret (v := (s_tm (st_6 cu))) hx hb hr (fun t ht hW => ⟨⟨(s_tm (st_6 cu)), (st_6, ln_8, kv_4), rfl, h, ⟨ad, ns, hns, rfl, hAD, hcu, x_ht ht hP⟩⟩, hS.F ht⟩) hS.2.2 dX6_go_54
    · have h := h.2 c_2
      refine lv_ldc2 (v := (-2000000001 : Int64)) hx hb hown (hts _ wX6_go_k41) dX6_go_20 ?_
      refine W.widen (k := 18) (n := 3323) (Nat.le_of_ble_eq_true rfl) (Nat.le_of_ble_eq_true rfl) ?_
      exact W.lret (v := (-2000000001 : Int64)) hx hb hr (fun t ht hW => ⟨⟨(-2000000001 : Int64), (st, ln, kv), rfl, h, ⟨ad, ns, hns, rfl, hAD, hcu, x_ht ht hP⟩⟩, hS.F ht⟩) hS.2.2 dX6_go_23
abbrev rmX6_went : Room := { frames := 0, cells := 0, slots := 0, locals := 0 }
theorem wX6_went_k41 : Cond.constantLong RX6 41 (-2000000001) ∈ wsX6_went := by decide +kernel
theorem wX6_went_k87 : Cond.constantLong RX6 87 (-2000000005) ∈ wsX6_went := by decide +kernel
theorem wX6_went_c4 : ∀ w ∈ u_ws RX4 TX4 8, w ∈ wsX6_went := by decide +kernel
theorem wX6_went_f122 : Cond.fieldLink RX6 122 "DueWheels$State" "row" "[[J" ∈ wsX6_went := by decide +kernel
theorem wX6_went_c6 : ∀ w ∈ u_ws RX6 TX6 4, w ∈ wsX6_went := by decide +kernel
theorem wX6_went_f33 : Cond.fieldLink RX6 33 "DueWheels" "state" "LDueWheels$State;" ∈ wsX6_went := by decide +kernel
theorem wX6_went_f118 : Cond.fieldLink RX6 118 "DueWheels$State" "rowSize" "I" ∈ wsX6_went := by decide +kernel
def PX6_went  (st : Nat → StV) (cu : Nat) (x1 : Int32) (x2 : Int32) (post : Int64 → Prop) : Prop :=
  ((x1 < 0 → post (-2000000001 : Int64)) ∧ (¬ x1 < 0 → ((x2 < 0 → post (-2000000001 : Int64)) ∧ (¬ x2 < 0 → ((x2 < (3 : Int32) → (((s_rs (st cu)) ≤ x1 → post (-2000000005 : Int64)) ∧ (¬ (s_rs (st cu)) ≤ x1 → (vp_in x2 3 ∧ (vp_in x1 300 ∧ post (s_ro (st cu) x2.toNatClampNeg (x1.toNatClampNeg))))))) ∧ (¬ x2 < (3 : Int32) → post (-2000000001 : Int64)))))))
set_option maxHeartbeats 4000000 in
set_option maxRecDepth 100000 in
theorem qX6_went (l : Launch) (dC : Nat → ClassId) (dI : Nat → Nat → Nat) (ci : Nat → ClassId) (A : Nat → Prop) (a0 : Nat) (st : Nat → StV) (ln : Nat → LnV) (sv : SvV) (kv : KvV) (cu : Nat) (x1 : Int32) (x2 : Int32) (post : Int64 → Prop) (h : PX6_went st cu x1 x2 post) : Met l yX6_went wsX6_went rmX6_went (va_Pc [.ref a0, .int x1, .int x2] (xPre (dC, dI) ci A (xB (dC, dI) ci A a0 st ln sv kv cu))) (va_Ql (fun r9 (u : Unit) => post r9 ) (fun u t => xB (dC, dI) ci A a0 st ln sv kv cu t.heap) A) 0 0 A := by
  refine Met.ofW (cc := cX6_went) (maxL := 3) (ret := (some .long)) (by decide) rfl ?_
  intro p e s m args below meth c s₁ B hml hv
  obtain ⟨eargs, hP, hK, hN, hA⟩ := hv
  obtain ⟨ad, ns, hns, h0, hAD, hcu, hP⟩ := hP
  subst h0
  have C0 : xC p s m args meth c cX6_went 3 (some .long) RX6 wsX6_went (dC, dI) (xT ci) := ⟨B.exec, B.bytes, hml, B.returns, B.notSynchronized, findClass_of_methodNamed B.named, atoms_spec (ws := wsX6_went) B.pre, hK⟩
  obtain ⟨hx, hb, -, hr, hlocks, hown, hts, -⟩ := id C0
  have hS : va_S A s.heap s.heap [] := va_S.rf
  have hl := lv_entry ([.ref (ad 0), .int x1, .int x2]) (n := 3) (Nat.le_of_ble_eq_true rfl)
  have ef : entryFrame m args 3 = entryFrame m ([.ref (ad 0), .int x1, .int x2] : List Value).toArray 3 := by rw [eargs]
  rw [ef, lg_entry_eq]
  generalize (lg_sl ([.ref (ad 0), .int x1, .int x2]) ++ List.replicate (3 - (lg_sl ([.ref (ad 0), .int x1, .int x2])).length) Slot.unset).toArray = ls at hl ⊢
  have hl : lv_has ls 3 [(0, .ref (ad 0)), (1, .int x1), (2, .int x2)] := hl
  have hP : va_P (dC, dI) vwCl (xw (xn ns) ad (xc ad ci st ln sv kv cu)) s.heap := hP
  unfold PX6_went at h
  refine lv_iload_n hx hb dX6_went_0 rfl (lv_at hl 1 rfl) ?_
  refine lv_if_lt (tgt := 13) hx hb dX6_went_1 (by decide) (fun c_1 => ?_) (fun c_1 => ?_)
  · have h := h.1 c_1
    refine lv_ldc2 (v := (-2000000001 : Int64)) hx hb hown (hts _ wX6_went_k41) dX6_went_13 ?_
    exact W.lret (v := (-2000000001 : Int64)) hx hb hr (fun t ht hW => ⟨⟨(-2000000001 : Int64), (), rfl, h, ⟨ad, ns, hns, rfl, hAD, hcu, x_ht ht hP⟩⟩, hS.F ht⟩) hS.2.2 dX6_went_16
  · have h := h.2 c_1
    refine lv_iload_n hx hb dX6_went_4 rfl (lv_at hl 2 rfl) ?_
    refine lv_if_lt (tgt := 13) hx hb dX6_went_5 (by decide) (fun c_2 => ?_) (fun c_2 => ?_)
    · have h := h.1 c_2
      refine lv_ldc2 (v := (-2000000001 : Int64)) hx hb hown (hts _ wX6_went_k41) dX6_went_13 ?_
      exact W.lret (v := (-2000000001 : Int64)) hx hb hr (fun t ht hW => ⟨⟨(-2000000001 : Int64), (), rfl, h, ⟨ad, ns, hns, rfl, hAD, hcu, x_ht ht hP⟩⟩, hS.F ht⟩) hS.2.2 dX6_went_16
    · have h := h.2 c_2
      refine lv_iload_n hx hb dX6_went_8 rfl (lv_at hl 2 rfl) ?_
      refine lv_iconst (v := (3 : Int32)) hx hb dX6_went_9 (by decide) ?_
      refine lv_icmp_lt (tgt := 17) hx hb dX6_went_10 (by decide) (fun c_3 => ?_) (fun c_3 => ?_)
      · have h := h.1 c_3
        refine lv_iload_n hx hb dX6_went_17 rfl (lv_at hl 1 rfl) ?_
        refine lv_aload_n hx hb dX6_went_18 rfl (lv_at hl 0 rfl) ?_
        refine xr_get (D := (dC, dI)) (C := RX6) (T := TX6) (N := 4) (v := .ref (ad (xaS cu))) hx hb hts wX6_went_c6 hown hK hP 0 (xq_c (by decide)) xe_X rfl 3 (by decide) wX6_went_f33 rfl rfl dX6_went_19 ?_
        refine xr_get (D := (dC, dI)) (C := RX4) (T := TX4) (N := 8) (v := .int (s_rs (st cu))) hx hb hts wX6_went_c4 hown hK hP (xaS cu) (xq_S hcu) (xe_S rfl) rfl 5 (by decide) wX6_went_f118 rfl rfl dX6_went_22 ?_
        refine lv_icmp_ge (tgt := 42) hx hb dX6_went_25 (by decide) (fun c_4 => ?_) (fun c_4 => ?_)
        · have h := h.1 c_4
          refine lv_ldc2 (v := (-2000000005 : Int64)) hx hb hown (hts _ wX6_went_k87) dX6_went_42 ?_
          exact W.lret (v := (-2000000005 : Int64)) hx hb hr (fun t ht hW => ⟨⟨(-2000000005 : Int64), (), rfl, h, ⟨ad, ns, hns, rfl, hAD, hcu, x_ht ht hP⟩⟩, hS.F ht⟩) hS.2.2 dX6_went_45
        · have h := h.2 c_4
          refine lv_aload_n hx hb dX6_went_28 rfl (lv_at hl 0 rfl) ?_
          refine xr_get (D := (dC, dI)) (C := RX6) (T := TX6) (N := 4) (v := .ref (ad (xaS cu))) hx hb hts wX6_went_c6 hown hK hP 0 (xq_c (by decide)) xe_X rfl 3 (by decide) wX6_went_f33 rfl rfl dX6_went_29 ?_
          refine xr_get (D := (dC, dI)) (C := RX4) (T := TX4) (N := 8) (v := .ref (ad (xaR0 cu))) hx hb hts wX6_went_c4 hown hK hP (xaS cu) (xq_S hcu) (xe_S rfl) rfl 7 (by decide) wX6_went_f122 rfl rfl dX6_went_32 ?_
          refine lv_iload_n hx hb dX6_went_35 rfl (lv_at hl 2 rfl) ?_
          obtain ⟨g_5, h⟩ := h
          refine xr_aald (k := x2.toNatClampNeg) (b := ad (xaR cu x2.toNatClampNeg)) hx hb hK hP (xaR0 cu) 4 (xq_R0 hcu) xe_R0 rfl rfl rfl g_5 rfl dX6_went_36 ?_
          refine lv_iload_n hx hb dX6_went_37 rfl (lv_at hl 1 rfl) ?_
          obtain ⟨g_6, h⟩ := h
          refine xr_lald (k := x1.toNatClampNeg) hx hb hK hP (xaR cu x2.toNatClampNeg) 1 (xq_R hcu (x_lt g_5)) (xe_R (x_lt g_5) rfl) rfl rfl g_6 dX6_went_38 ?_
          refine lv_goto (tgt := 45) hx hb dX6_went_39 (by decide) ?_
          exact W.lret (v := (s_ro (st cu) x2.toNatClampNeg (x1.toNatClampNeg))) hx hb hr (fun t ht hW => ⟨⟨(s_ro (st cu) x2.toNatClampNeg (x1.toNatClampNeg)), (), rfl, h, ⟨ad, ns, hns, rfl, hAD, hcu, x_ht ht hP⟩⟩, hS.F ht⟩) hS.2.2 dX6_went_45
      · have h := h.2 c_3
        refine lv_ldc2 (v := (-2000000001 : Int64)) hx hb hown (hts _ wX6_went_k41) dX6_went_13 ?_
        exact W.lret (v := (-2000000001 : Int64)) hx hb hr (fun t ht hW => ⟨⟨(-2000000001 : Int64), (), rfl, h, ⟨ad, ns, hns, rfl, hAD, hcu, x_ht ht hP⟩⟩, hS.F ht⟩) hS.2.2 dX6_went_16
abbrev rmX6_next : Room := { frames := 1, cells := 0, slots := 0, locals := 25 }
theorem wX6_next_c6 : ∀ w ∈ u_ws RX6 TX6 4, w ∈ wsX6_next := by decide +kernel
theorem wX6_next_f33 : Cond.fieldLink RX6 33 "DueWheels" "state" "LDueWheels$State;" ∈ wsX6_next := by decide +kernel
def PX6_next  (st : Nat → StV) (cu : Nat)  (post : Int64 → Prop) : Prop :=
  (PX4_leastTick (st cu) (fun (r_1 : Int64) => post r_1))
set_option maxHeartbeats 4000000 in
set_option maxRecDepth 100000 in
theorem qX6_next (l : Launch) (dC : Nat → ClassId) (dI : Nat → Nat → Nat) (ci : Nat → ClassId) (A : Nat → Prop) (a0 : Nat) (st : Nat → StV) (ln : Nat → LnV) (sv : SvV) (kv : KvV) (cu : Nat)  (post : Int64 → Prop) (h : PX6_next st cu post) : Met l yX6_next wsX6_next rmX6_next (va_Pc [.ref a0] (xPre (dC, dI) ci A (xB (dC, dI) ci A a0 st ln sv kv cu))) (va_Ql (fun r9 (u : Unit) => post r9 ) (fun u t => xB (dC, dI) ci A a0 st ln sv kv cu t.heap) A) 0 0 A := by
  refine Met.ofW (cc := cX6_next) (maxL := 1) (ret := (some .long)) (by decide) rfl ?_
  intro p e s m args below meth c s₁ B hml hv
  obtain ⟨eargs, hP, hK, hN, hA⟩ := hv
  obtain ⟨ad, ns, hns, h0, hAD, hcu, hP⟩ := hP
  subst h0
  have C0 : xC p s m args meth c cX6_next 1 (some .long) RX6 wsX6_next (dC, dI) (xT ci) := ⟨B.exec, B.bytes, hml, B.returns, B.notSynchronized, findClass_of_methodNamed B.named, atoms_spec (ws := wsX6_next) B.pre, hK⟩
  obtain ⟨hx, hb, -, hr, hlocks, hown, hts, -⟩ := id C0
  have hS : va_S A s.heap s.heap [] := va_S.rf
  have hl := lv_entry ([.ref (ad 0)]) (n := 1) (Nat.le_of_ble_eq_true rfl)
  have ef : entryFrame m args 1 = entryFrame m ([.ref (ad 0)] : List Value).toArray 1 := by rw [eargs]
  rw [ef, lg_entry_eq]
  generalize (lg_sl ([.ref (ad 0)]) ++ List.replicate (1 - (lg_sl ([.ref (ad 0)])).length) Slot.unset).toArray = ls at hl ⊢
  have hl : lv_has ls 1 [(0, .ref (ad 0))] := hl
  have hP : va_P (dC, dI) vwCl (xw (xn ns) ad (xc ad ci st ln sv kv cu)) s.heap := hP
  unfold PX6_next at h
  refine lv_aload_n hx hb dX6_next_0 rfl (lv_at hl 0 rfl) ?_
  refine xr_get (D := (dC, dI)) (C := RX6) (T := TX6) (N := 4) (v := .ref (ad (xaS cu))) hx hb hts wX6_next_c6 hown hK hP 0 (xq_c (by decide)) xe_X rfl 3 (by decide) wX6_next_f33 rfl rfl dX6_next_1 ?_
  have hP9 := x_e1 cu hP
  refine va_calll (va_runV (As := []) (rest := []) ⟨hx, hb, C0.2.2.1, hown, hts⟩ (qX4_leastTick l dC dI ad ci A ns hAD st (st cu) ln sv kv cu cu hcu  _ h) (cwV 0 hts gX6_next_X4_leastTick rfl rfl rfl (by decide +kernel) ⟨Nat.le_of_ble_eq_true rfl, Nat.le_of_ble_eq_true rfl⟩) ⟨xr_blind, xr_recv (r := (RX4, TX4, 8)) hK hP (xaS cu) (xq_S hcu) (xe_S rfl) rfl, xr_pre hP9 hK⟩ rfl rfl hl.1 rfl (lv_room (Nat.le_of_ble_eq_true rfl)) dX6_next_4 ⟨Nat.le_of_ble_eq_true rfl, Nat.le_of_ble_eq_true rfl⟩) hS (fun _ _ h => h) (fun _ h => h) (fun r_1 _ t9 H locs ht hvm h hB _ _ hS => ?_)
  refine W.cs (cells' := 0) (slots' := 0) rfl rfl ?_
  have hP := x_th ht hB
  have hP : va_P (dC, dI) vwCl (xw (xn ns) ad (xc ad ci st ln sv kv cu)) H := by simp only [x_eta] at hP; exact hP
  exact W.lret (v := r_1) hx hb hr (fun t ht hW => ⟨⟨r_1, (), rfl, h, ⟨ad, ns, hns, rfl, hAD, hcu, x_ht ht hP⟩⟩, hS.F ht⟩) hS.2.2 dX6_next_7
abbrev rmX6_fewest : Room := { frames := 4, cells := 0, slots := 0, locals := 101 }
theorem wX6_fewest_c6 : ∀ w ∈ u_ws RX6 TX6 4, w ∈ wsX6_fewest := by decide +kernel
theorem wX6_fewest_f33 : Cond.fieldLink RX6 33 "DueWheels" "state" "LDueWheels$State;" ∈ wsX6_fewest := by decide +kernel
theorem wX6_fewest_f26 : Cond.fieldLink RX6 26 "DueWheels" "settling" "LDueWheels$Settling;" ∈ wsX6_fewest := by decide +kernel
def PX6_fewest  (st : Nat → StV) (ln : Nat → LnV) (sv : SvV) (cu : Nat)  (post : Int64 → (Nat → LnV) → SvV → Prop) : Prop :=
  (PX3_plan (st cu) (ln 1) sv (fun (r_1 : Int32) (w_2 : LnV) (sv_4 : SvV) => ∀ ln_3 : Nat → LnV, ln_3 = va_up ln 1 w_2 → post (r_1.toInt64) ln_3 sv_4))
set_option maxHeartbeats 4000000 in
set_option maxRecDepth 100000 in
theorem qX6_fewest (l : Launch) (dC : Nat → ClassId) (dI : Nat → Nat → Nat) (ci : Nat → ClassId) (A : Nat → Prop) (a0 : Nat) (st : Nat → StV) (ln : Nat → LnV) (sv : SvV) (kv : KvV) (cu : Nat)  (post : Int64 → (Nat → LnV) → SvV → Prop) (h : PX6_fewest st ln sv cu post) : Met l yX6_fewest wsX6_fewest rmX6_fewest (va_Pc [.ref a0] (xPre (dC, dI) ci A (xB (dC, dI) ci A a0 st ln sv kv cu))) (va_Ql (fun r9 (u : (Nat → LnV) × SvV) => post r9 (u.1) (u.2)) (fun u t => xB (dC, dI) ci A a0 st (u.1) (u.2) kv cu t.heap) A) 0 0 A := by
  refine Met.ofW (cc := cX6_fewest) (maxL := 1) (ret := (some .long)) (by decide) rfl ?_
  intro p e s m args below meth c s₁ B hml hv
  obtain ⟨eargs, hP, hK, hN, hA⟩ := hv
  obtain ⟨ad, ns, hns, h0, hAD, hcu, hP⟩ := hP
  subst h0
  have C0 : xC p s m args meth c cX6_fewest 1 (some .long) RX6 wsX6_fewest (dC, dI) (xT ci) := ⟨B.exec, B.bytes, hml, B.returns, B.notSynchronized, findClass_of_methodNamed B.named, atoms_spec (ws := wsX6_fewest) B.pre, hK⟩
  obtain ⟨hx, hb, -, hr, hlocks, hown, hts, -⟩ := id C0
  have hS : va_S A s.heap s.heap [] := va_S.rf
  have hl := lv_entry ([.ref (ad 0)]) (n := 1) (Nat.le_of_ble_eq_true rfl)
  have ef : entryFrame m args 1 = entryFrame m ([.ref (ad 0)] : List Value).toArray 1 := by rw [eargs]
  rw [ef, lg_entry_eq]
  generalize (lg_sl ([.ref (ad 0)]) ++ List.replicate (1 - (lg_sl ([.ref (ad 0)])).length) Slot.unset).toArray = ls at hl ⊢
  have hl : lv_has ls 1 [(0, .ref (ad 0))] := hl
  have hP : va_P (dC, dI) vwCl (xw (xn ns) ad (xc ad ci st ln sv kv cu)) s.heap := hP
  unfold PX6_fewest at h
  refine lv_aload_n hx hb dX6_fewest_0 rfl (lv_at hl 0 rfl) ?_
  refine xr_get (D := (dC, dI)) (C := RX6) (T := TX6) (N := 4) (v := .ref (ad 8)) hx hb hts wX6_fewest_c6 hown hK hP 0 (xq_c (by decide)) xe_X rfl 2 (by decide) wX6_fewest_f26 rfl rfl dX6_fewest_1 ?_
  refine lv_aload_n hx hb dX6_fewest_4 rfl (lv_at hl 0 rfl) ?_
  refine xr_get (D := (dC, dI)) (C := RX6) (T := TX6) (N := 4) (v := .ref (ad (xaS cu))) hx hb hts wX6_fewest_c6 hown hK hP 0 (xq_c (by decide)) xe_X rfl 3 (by decide) wX6_fewest_f33 rfl rfl dX6_fewest_5 ?_
  have hP9 := x_e3 cu 1 hP
  refine va_calli (va_runV (As := [.ref (ad (xaS cu))]) (rest := []) ⟨hx, hb, C0.2.2.1, hown, hts⟩ (qX3_plan l dC dI ad ci A ns hAD st (st cu) ln (ln 1) sv kv cu cu hcu  _ h) (cwV 1 hts gX6_fewest_X3_plan rfl rfl rfl (by decide +kernel) ⟨Nat.le_of_ble_eq_true rfl, Nat.le_of_ble_eq_true rfl⟩) ⟨xr_blind, xr_recv (r := (RX3, TX3, 4)) hK hP 8 (xq_c (by decide)) xe_T rfl, xr_pre hP9 hK⟩ rfl rfl hl.1 rfl (lv_room (Nat.le_of_ble_eq_true rfl)) dX6_fewest_8 ⟨Nat.le_of_ble_eq_true rfl, Nat.le_of_ble_eq_true rfl⟩) hS (fun _ _ h => h) (fun _ h => h) (fun r_1 u9 t9 H locs ht hvm h hB _ _ hS => ?_)
  refine W.cs (cells' := 0) (slots' := 0) rfl rfl ?_
  obtain ⟨w_2, sv_4⟩ := u9
  have hP := x_th ht hB
  have hP : va_P (dC, dI) vwCl (xw (xn ns) ad (xc ad ci st (va_up ln 1 w_2) sv_4 kv cu)) H := by simp only [x_eta] at hP; exact hP
  obtain ⟨ln_3, eln_3⟩ : ∃ z : Nat → LnV, z = va_up ln 1 w_2 := ⟨_, rfl⟩
  have h := h ln_3 eln_3
  rw [← eln_3] at hP
  refine lv_i2l hx hb dX6_fewest_11 rfl ?_
  exact W.lret (v := (r_1.toInt64)) hx hb hr (fun t ht hW => ⟨⟨(r_1.toInt64), (ln_3, sv_4), rfl, h, ⟨ad, ns, hns, rfl, hAD, hcu, x_ht ht hP⟩⟩, hS.F ht⟩) hS.2.2 dX6_fewest_12
abbrev rmX6_settle : Room := { frames := 4, cells := 18, slots := 3323, locals := 101 }
theorem wX6_settle_c6 : ∀ w ∈ u_ws RX6 TX6 4, w ∈ wsX6_settle := by decide +kernel
theorem wX6_settle_f33 : Cond.fieldLink RX6 33 "DueWheels" "state" "LDueWheels$State;" ∈ wsX6_settle := by decide +kernel
theorem wX6_settle_f26 : Cond.fieldLink RX6 26 "DueWheels" "settling" "LDueWheels$Settling;" ∈ wsX6_settle := by decide +kernel
theorem wX6_settle_f10 : Cond.fieldLink RX6 10 "DueWheels" "kept" "LDueWheels$Kept;" ∈ wsX6_settle := by decide +kernel
def PX6_settle  (st : Nat → StV) (ln : Nat → LnV) (sv : SvV) (kv : KvV) (cu : Nat)  (post : Int64 → (Nat → StV) → (Nat → LnV) → SvV → KvV → Prop) : Prop :=
  (PX1_keep cu st kv (fun (st_1 : Nat → StV) (kv_2 : KvV) => (PX3_plan (st_1 cu) (ln 1) sv (fun (r_3 : Int32) (w_4 : LnV) (sv_6 : SvV) => ∀ ln_5 : Nat → LnV, ln_5 = va_up ln 1 w_4 → (PX3_carryOut (st_1 cu) (ln_5 1) sv_6 (fun (r_7 : Int32) (v_8 : StV) => ∀ st_9 : Nat → StV, st_9 = va_up st_1 cu v_8 → post (r_7.toInt64) st_9 ln_5 sv_6 kv_2))))))
set_option maxHeartbeats 4000000 in
set_option maxRecDepth 100000 in
theorem qX6_settle (l : Launch) (dC : Nat → ClassId) (dI : Nat → Nat → Nat) (ci : Nat → ClassId) (A : Nat → Prop) (a0 : Nat) (st : Nat → StV) (ln : Nat → LnV) (sv : SvV) (kv : KvV) (cu : Nat)  (post : Int64 → (Nat → StV) → (Nat → LnV) → SvV → KvV → Prop) (h : PX6_settle st ln sv kv cu post) : Met l yX6_settle wsX6_settle rmX6_settle (va_Pc [.ref a0] (xPre (dC, dI) ci A (xB (dC, dI) ci A a0 st ln sv kv cu))) (va_Ql (fun r9 (u : (Nat → StV) × (Nat → LnV) × SvV × KvV) => post r9 (u.1) (u.2.1) (u.2.2.1) (u.2.2.2)) (fun u t => xB (dC, dI) ci A a0 (u.1) (u.2.1) (u.2.2.1) (u.2.2.2) cu t.heap) A) 18 3323 A := by
  refine Met.ofW (cc := cX6_settle) (maxL := 1) (ret := (some .long)) (by decide) rfl ?_
  intro p e s m args below meth c s₁ B hml hv
  obtain ⟨eargs, hP, hK, hN, hA⟩ := hv
  obtain ⟨ad, ns, hns, h0, hAD, hcu, hP⟩ := hP
  subst h0
  have C0 : xC p s m args meth c cX6_settle 1 (some .long) RX6 wsX6_settle (dC, dI) (xT ci) := ⟨B.exec, B.bytes, hml, B.returns, B.notSynchronized, findClass_of_methodNamed B.named, atoms_spec (ws := wsX6_settle) B.pre, hK⟩
  obtain ⟨hx, hb, -, hr, hlocks, hown, hts, -⟩ := id C0
  have hS : va_S A s.heap s.heap [] := va_S.rf
  have hl := lv_entry ([.ref (ad 0)]) (n := 1) (Nat.le_of_ble_eq_true rfl)
  have ef : entryFrame m args 1 = entryFrame m ([.ref (ad 0)] : List Value).toArray 1 := by rw [eargs]
  rw [ef, lg_entry_eq]
  generalize (lg_sl ([.ref (ad 0)]) ++ List.replicate (1 - (lg_sl ([.ref (ad 0)])).length) Slot.unset).toArray = ls at hl ⊢
  have hl : lv_has ls 1 [(0, .ref (ad 0))] := hl
  have hP : va_P (dC, dI) vwCl (xw (xn ns) ad (xc ad ci st ln sv kv cu)) s.heap := hP
  unfold PX6_settle at h
  refine lv_aload_n hx hb dX6_settle_0 rfl (lv_at hl 0 rfl) ?_
  refine xr_get (D := (dC, dI)) (C := RX6) (T := TX6) (N := 4) (v := .ref (ad 1)) hx hb hts wX6_settle_c6 hown hK hP 0 (xq_c (by decide)) xe_X rfl 0 (by decide) wX6_settle_f10 rfl rfl dX6_settle_1 ?_
  refine lv_aload_n hx hb dX6_settle_4 rfl (lv_at hl 0 rfl) ?_
  refine xr_get (D := (dC, dI)) (C := RX6) (T := TX6) (N := 4) (v := .ref (ad (xaS cu))) hx hb hts wX6_settle_c6 hown hK hP 0 (xq_c (by decide)) xe_X rfl 3 (by decide) wX6_settle_f33 rfl rfl dX6_settle_5 ?_
  refine va_callv (va_runV (As := [.ref (ad (xaS cu))]) (rest := []) ⟨hx, hb, C0.2.2.1, hown, hts⟩ (qX1_keep l dC dI ad ci A ns hAD st ln sv kv cu cu hcu hcu hns  _ h) (cwV 1 hts gX6_settle_X1_keep rfl rfl rfl (by decide +kernel) ⟨Nat.le_of_ble_eq_true rfl, Nat.le_of_ble_eq_true rfl⟩) ⟨xk_blind, xr_recv (r := (RX1, TX1, 3)) hK hP 1 (xq_c (by decide)) xe_K rfl, xk_pre hP hK hN (fun q hq => hA q (Nat.le_trans hS.1 hq))⟩ rfl rfl hl.1 rfl (lv_room (Nat.le_of_ble_eq_true rfl)) dX6_settle_8 ⟨Nat.le_of_ble_eq_true rfl, Nat.le_of_ble_eq_true rfl⟩) hS (fun _ _ h => h) (fun _ h => h) (fun u9 t9 H locs ht hvm h hB _ _ hS => ?_)
  refine W.cs (cells' := 18) (slots' := 3323) rfl rfl ?_
  obtain ⟨st_1, kv_2⟩ := u9
  obtain ⟨ad, ns, hns, h0, hAD, hcu, hP⟩ := xB_th ht hB
  rw [← h0] at hl ⊢
  have hns : k_ns kv_2 = ns := hns
  have hP : va_P (dC, dI) vwCl (xw (xn ns) ad (xc ad ci st_1 ln sv kv_2 cu)) H := hP
  refine lv_aload_n hx hb dX6_settle_11 rfl (lv_at hl 0 rfl) ?_
  refine xr_get (D := (dC, dI)) (C := RX6) (T := TX6) (N := 4) (v := .ref (ad 8)) hx hb hts wX6_settle_c6 hown hK hP 0 (xq_c (by decide)) xe_X rfl 2 (by decide) wX6_settle_f26 rfl rfl dX6_settle_12 ?_
  refine lv_aload_n hx hb dX6_settle_15 rfl (lv_at hl 0 rfl) ?_
  refine xr_get (D := (dC, dI)) (C := RX6) (T := TX6) (N := 4) (v := .ref (ad (xaS cu))) hx hb hts wX6_settle_c6 hown hK hP 0 (xq_c (by decide)) xe_X rfl 3 (by decide) wX6_settle_f33 rfl rfl dX6_settle_16 ?_
  have hP9 := x_e3 cu 1 hP
  refine va_calli (va_runV (As := [.ref (ad (xaS cu))]) (rest := []) ⟨hx, hb, C0.2.2.1, hown, hts⟩ (qX3_plan l dC dI ad ci A ns hAD st_1 (st_1 cu) ln (ln 1) sv kv_2 cu cu hcu  _ h) (cwV 1 hts gX6_settle_X3_plan rfl rfl rfl (by decide +kernel) ⟨Nat.le_of_ble_eq_true rfl, Nat.le_of_ble_eq_true rfl⟩) ⟨xr_blind, xr_recv (r := (RX3, TX3, 4)) hK hP 8 (xq_c (by decide)) xe_T rfl, xr_pre hP9 hK⟩ rfl rfl hl.1 rfl (lv_room (Nat.le_of_ble_eq_true rfl)) dX6_settle_19 ⟨Nat.le_of_ble_eq_true rfl, Nat.le_of_ble_eq_true rfl⟩) hS (fun _ _ h => h) (fun _ h => h) (fun r_3 u9 t9 H locs ht hvm h hB _ _ hS => ?_)
  refine W.cs (cells' := 18) (slots' := 3323) rfl rfl ?_
  obtain ⟨w_4, sv_6⟩ := u9
  have hP := x_th ht hB
  have hP : va_P (dC, dI) vwCl (xw (xn ns) ad (xc ad ci st_1 (va_up ln 1 w_4) sv_6 kv_2 cu)) H := by simp only [x_eta] at hP; exact hP
  obtain ⟨ln_5, eln_5⟩ : ∃ z : Nat → LnV, z = va_up ln 1 w_4 := ⟨_, rfl⟩
  have h := h ln_5 eln_5
  rw [← eln_5] at hP
  refine lv_pop hx hb dX6_settle_22 rfl ?_
  refine lv_aload_n hx hb dX6_settle_23 rfl (lv_at hl 0 rfl) ?_
  refine xr_get (D := (dC, dI)) (C := RX6) (T := TX6) (N := 4) (v := .ref (ad 8)) hx hb hts wX6_settle_c6 hown hK hP 0 (xq_c (by decide)) xe_X rfl 2 (by decide) wX6_settle_f26 rfl rfl dX6_settle_24 ?_
  refine lv_aload_n hx hb dX6_settle_27 rfl (lv_at hl 0 rfl) ?_
  refine xr_get (D := (dC, dI)) (C := RX6) (T := TX6) (N := 4) (v := .ref (ad (xaS cu))) hx hb hts wX6_settle_c6 hown hK hP 0 (xq_c (by decide)) xe_X rfl 3 (by decide) wX6_settle_f33 rfl rfl dX6_settle_28 ?_
  have hP9 := x_e3 cu 1 hP
  refine va_calli (va_runV (As := [.ref (ad (xaS cu))]) (rest := []) ⟨hx, hb, C0.2.2.1, hown, hts⟩ (qX3_carryOut l dC dI ad ci A ns hAD st_1 (st_1 cu) ln_5 (ln_5 1) sv_6 kv_2 cu cu hcu  _ h) (cwV 1 hts gX6_settle_X3_carryOut rfl rfl rfl (by decide +kernel) ⟨Nat.le_of_ble_eq_true rfl, Nat.le_of_ble_eq_true rfl⟩) ⟨xr_blind, xr_recv (r := (RX3, TX3, 4)) hK hP 8 (xq_c (by decide)) xe_T rfl, xr_pre hP9 hK⟩ rfl rfl hl.1 rfl (lv_room (Nat.le_of_ble_eq_true rfl)) dX6_settle_31 ⟨Nat.le_of_ble_eq_true rfl, Nat.le_of_ble_eq_true rfl⟩) hS (fun _ _ h => h) (fun _ h => h) (fun r_7 v_8 t9 H locs ht hvm h hB _ _ hS => ?_)
  refine W.cs (cells' := 18) (slots' := 3323) rfl rfl ?_
  have hP := x_th ht hB
  have hP : va_P (dC, dI) vwCl (xw (xn ns) ad (xc ad ci (va_up st_1 cu v_8) ln_5 sv_6 kv_2 cu)) H := by simp only [x_eta] at hP; exact hP
  obtain ⟨st_9, est_9⟩ : ∃ z : Nat → StV, z = va_up st_1 cu v_8 := ⟨_, rfl⟩
  have h := h st_9 est_9
  rw [← est_9] at hP
  refine lv_i2l hx hb dX6_settle_34 rfl ?_
  exact W.lret (v := (r_7.toInt64)) hx hb hr (fun t ht hW => ⟨⟨(r_7.toInt64), (st_9, ln_5, sv_6, kv_2), rfl, h, ⟨ad, ns, hns, rfl, hAD, hcu, x_ht ht hP⟩⟩, hS.F ht⟩) hS.2.2 dX6_settle_35
abbrev rmX6_lies : Room := { frames := 1, cells := 0, slots := 0, locals := 25 }
theorem wX6_lies_k41 : Cond.constantLong RX6 41 (-2000000001) ∈ wsX6_lies := by decide +kernel
theorem wX6_lies_k87 : Cond.constantLong RX6 87 (-2000000005) ∈ wsX6_lies := by decide +kernel
theorem wX6_lies_c4 : ∀ w ∈ u_ws RX4 TX4 8, w ∈ wsX6_lies := by decide +kernel
theorem wX6_lies_f108 : Cond.fieldLink RX6 108 "DueWheels$State" "time" "J" ∈ wsX6_lies := by decide +kernel
theorem wX6_lies_c6 : ∀ w ∈ u_ws RX6 TX6 4, w ∈ wsX6_lies := by decide +kernel
theorem wX6_lies_f33 : Cond.fieldLink RX6 33 "DueWheels" "state" "LDueWheels$State;" ∈ wsX6_lies := by decide +kernel
theorem wX6_lies_f65 : Cond.fieldLink RX6 65 "DueWheels$State" "dues" "[[J" ∈ wsX6_lies := by decide +kernel
def PX6_lies  (st : Nat → StV) (cu : Nat) (x1 : Int32) (x2 : Int32) (post : Int64 → Prop) : Prop :=
  (PX4_isDue (st cu) x1 (fun (r_1 : Int32) => ((r_1 = 0 → post (-2000000001 : Int64)) ∧ (¬ r_1 = 0 → ((x2 < 0 → post (-2000000001 : Int64)) ∧ (¬ x2 < 0 → ((x2 ≤ (2 : Int32) → ((x2 = (2 : Int32) → (vp_in x1 200 ∧ post (s_du (st cu) 11 (x1.toNatClampNeg)))) ∧ (¬ x2 = (2 : Int32) → (vp_in x1 200 ∧ ∀ x3_7 : Int64, x3_7 = (s_du (st cu) 2 (x1.toNatClampNeg)) → ((x3_7 = (-2000000005 : Int64) → post (-2000000005 : Int64)) ∧ (¬ x3_7 = (-2000000005 : Int64) → (PX5_wheelOf (s_tm (st cu)) x3_7 (fun (r_9 : Int32) => ((x2 = 0 → post (r_9.toInt64)) ∧ (¬ x2 = 0 → (PX5_slotOf r_9 x3_7 (fun (r_11 : Int32) => post (r_11.toInt64))))))))))))) ∧ (¬ x2 ≤ (2 : Int32) → post (-2000000001 : Int64)))))))))
set_option maxHeartbeats 4000000 in
set_option maxRecDepth 100000 in
theorem qX6_lies (l : Launch) (dC : Nat → ClassId) (dI : Nat → Nat → Nat) (ci : Nat → ClassId) (A : Nat → Prop) (a0 : Nat) (st : Nat → StV) (ln : Nat → LnV) (sv : SvV) (kv : KvV) (cu : Nat) (x1 : Int32) (x2 : Int32) (post : Int64 → Prop) (h : PX6_lies st cu x1 x2 post) : Met l yX6_lies wsX6_lies rmX6_lies (va_Pc [.ref a0, .int x1, .int x2] (xPre (dC, dI) ci A (xB (dC, dI) ci A a0 st ln sv kv cu))) (va_Ql (fun r9 (u : Unit) => post r9 ) (fun u t => xB (dC, dI) ci A a0 st ln sv kv cu t.heap) A) 0 0 A := by
  refine Met.ofW (cc := cX6_lies) (maxL := 6) (ret := (some .long)) (by decide) rfl ?_
  intro p e s m args below meth c s₁ B hml hv
  obtain ⟨eargs, hP, hK, hN, hA⟩ := hv
  obtain ⟨ad, ns, hns, h0, hAD, hcu, hP⟩ := hP
  subst h0
  have C0 : xC p s m args meth c cX6_lies 6 (some .long) RX6 wsX6_lies (dC, dI) (xT ci) := ⟨B.exec, B.bytes, hml, B.returns, B.notSynchronized, findClass_of_methodNamed B.named, atoms_spec (ws := wsX6_lies) B.pre, hK⟩
  obtain ⟨hx, hb, -, hr, hlocks, hown, hts, -⟩ := id C0
  have hS : va_S A s.heap s.heap [] := va_S.rf
  have hl := lv_entry ([.ref (ad 0), .int x1, .int x2]) (n := 6) (Nat.le_of_ble_eq_true rfl)
  have ef : entryFrame m args 6 = entryFrame m ([.ref (ad 0), .int x1, .int x2] : List Value).toArray 6 := by rw [eargs]
  rw [ef, lg_entry_eq]
  generalize (lg_sl ([.ref (ad 0), .int x1, .int x2]) ++ List.replicate (6 - (lg_sl ([.ref (ad 0), .int x1, .int x2])).length) Slot.unset).toArray = ls at hl ⊢
  have hl : lv_has ls 6 [(0, .ref (ad 0)), (1, .int x1), (2, .int x2)] := hl
  have hP : va_P (dC, dI) vwCl (xw (xn ns) ad (xc ad ci st ln sv kv cu)) s.heap := hP
  unfold PX6_lies at h
  refine lv_aload_n hx hb dX6_lies_0 rfl (lv_at hl 0 rfl) ?_
  refine xr_get (D := (dC, dI)) (C := RX6) (T := TX6) (N := 4) (v := .ref (ad (xaS cu))) hx hb hts wX6_lies_c6 hown hK hP 0 (xq_c (by decide)) xe_X rfl 3 (by decide) wX6_lies_f33 rfl rfl dX6_lies_1 ?_
  refine lv_iload_n hx hb dX6_lies_4 rfl (lv_at hl 1 rfl) ?_
  have hP9 := x_e1 cu hP
  refine va_calli (va_runV (As := [.int x1]) (rest := []) ⟨hx, hb, C0.2.2.1, hown, hts⟩ (qX4_isDue l dC dI ad ci A ns hAD st (st cu) ln sv kv cu cu hcu x1 _ h) (cwV 1 hts gX6_lies_X4_isDue rfl rfl rfl (by decide +kernel) ⟨Nat.le_of_ble_eq_true rfl, Nat.le_of_ble_eq_true rfl⟩) ⟨xr_blind, xr_recv (r := (RX4, TX4, 8)) hK hP (xaS cu) (xq_S hcu) (xe_S rfl) rfl, xr_pre hP9 hK⟩ rfl rfl hl.1 rfl (lv_room (Nat.le_of_ble_eq_true rfl)) dX6_lies_5 ⟨Nat.le_of_ble_eq_true rfl, Nat.le_of_ble_eq_true rfl⟩) hS (fun _ _ h => h) (fun _ h => h) (fun r_1 _ t9 H locs ht hvm h hB _ _ hS => ?_)
  refine W.cs (cells' := 0) (slots' := 0) rfl rfl ?_
  have hP := x_th ht hB
  have hP : va_P (dC, dI) vwCl (xw (xn ns) ad (xc ad ci st ln sv kv cu)) H := by simp only [x_eta] at hP; exact hP
  refine lv_if_eq (tgt := 20) hx hb dX6_lies_8 (by decide) (fun c_2 => ?_) (fun c_2 => ?_)
  · have h := h.1 c_2
    refine lv_ldc2 (v := (-2000000001 : Int64)) hx hb hown (hts _ wX6_lies_k41) dX6_lies_20 ?_
    exact W.lret (v := (-2000000001 : Int64)) hx hb hr (fun t ht hW => ⟨⟨(-2000000001 : Int64), (), rfl, h, ⟨ad, ns, hns, rfl, hAD, hcu, x_ht ht hP⟩⟩, hS.F ht⟩) hS.2.2 dX6_lies_23
  · have h := h.2 c_2
    refine lv_iload_n hx hb dX6_lies_11 rfl (lv_at hl 2 rfl) ?_
    refine lv_if_lt (tgt := 20) hx hb dX6_lies_12 (by decide) (fun c_3 => ?_) (fun c_3 => ?_)
    · have h := h.1 c_3
      refine lv_ldc2 (v := (-2000000001 : Int64)) hx hb hown (hts _ wX6_lies_k41) dX6_lies_20 ?_
      exact W.lret (v := (-2000000001 : Int64)) hx hb hr (fun t ht hW => ⟨⟨(-2000000001 : Int64), (), rfl, h, ⟨ad, ns, hns, rfl, hAD, hcu, x_ht ht hP⟩⟩, hS.F ht⟩) hS.2.2 dX6_lies_23
    · have h := h.2 c_3
      refine lv_iload_n hx hb dX6_lies_15 rfl (lv_at hl 2 rfl) ?_
      refine lv_iconst (v := (2 : Int32)) hx hb dX6_lies_16 (by decide) ?_
      refine lv_icmp_le (tgt := 24) hx hb dX6_lies_17 (by decide) (fun c_4 => ?_) (fun c_4 => ?_)
      · have h := h.1 c_4
        refine lv_iload_n hx hb dX6_lies_24 rfl (lv_at hl 2 rfl) ?_
        refine lv_iconst (v := (2 : Int32)) hx hb dX6_lies_25 (by decide) ?_
        refine lv_icmp_ne (tgt := 42) hx hb dX6_lies_26 (by decide) (fun c_5 => ?_) (fun c_5 => ?_)
        · have h := h.2 c_5
          refine lv_aload_n hx hb dX6_lies_42 rfl (lv_at hl 0 rfl) ?_
          refine xr_get (D := (dC, dI)) (C := RX6) (T := TX6) (N := 4) (v := .ref (ad (xaS cu))) hx hb hts wX6_lies_c6 hown hK hP 0 (xq_c (by decide)) xe_X rfl 3 (by decide) wX6_lies_f33 rfl rfl dX6_lies_43 ?_
          refine xr_get (D := (dC, dI)) (C := RX4) (T := TX4) (N := 8) (v := .ref (ad (xaD0 cu))) hx hb hts wX6_lies_c4 hown hK hP (xaS cu) (xq_S hcu) (xe_S rfl) rfl 6 (by decide) wX6_lies_f65 rfl rfl dX6_lies_46 ?_
          refine lv_iconst (v := (2 : Int32)) hx hb dX6_lies_49 (by decide) ?_
          refine xr_aald (k := 2) (b := ad (xaD cu 2)) hx hb hK hP (xaD0 cu) 4 (xq_D0 hcu) xe_D0 rfl rfl rfl (x_in _ _ (by decide)) rfl dX6_lies_50 ?_
          refine lv_iload_n hx hb dX6_lies_51 rfl (lv_at hl 1 rfl) ?_
          obtain ⟨g_6, h⟩ := h
          refine xr_lald (k := x1.toNatClampNeg) hx hb hK hP (xaD cu 2) 1 (xq_D hcu (by decide)) (xe_D (by decide) rfl) rfl rfl g_6 dX6_lies_52 ?_
          refine lv_topl (fun x3_7 ex3_7 => ?_)
          have h := h x3_7 ex3_7
          refine lv_lstore_n (lv' := [(3, .long x3_7), (0, .ref (ad 0)), (1, .int x1), (2, .int x2)]) hx hb dX6_lies_53 rfl hl (by decide) rfl (fun ls hl => ?_)
          refine lv_lload_n hx hb dX6_lies_54 rfl (lv_at hl 0 rfl) ?_
          refine lv_ldc2 (v := (-2000000005 : Int64)) hx hb hown (hts _ wX6_lies_k87) dX6_lies_55 ?_
          refine xr_if_lcmp_ne (tgt := 66) hx hb dX6_lies_58 dX6_lies_59 (by decide) (fun c_8 => ?_) (fun c_8 => ?_)
          · have h := h.2 c_8
            refine lv_aload_n hx hb dX6_lies_66 rfl (lv_at hl 1 rfl) ?_
            refine xr_get (D := (dC, dI)) (C := RX6) (T := TX6) (N := 4) (v := .ref (ad (xaS cu))) hx hb hts wX6_lies_c6 hown hK hP 0 (xq_c (by decide)) xe_X rfl 3 (by decide) wX6_lies_f33 rfl rfl dX6_lies_67 ?_
            refine xr_get (D := (dC, dI)) (C := RX4) (T := TX4) (N := 8) (v := .long (s_tm (st cu))) hx hb hts wX6_lies_c4 hown hK hP (xaS cu) (xq_S hcu) (xe_S rfl) rfl 0 (by decide) wX6_lies_f108 rfl rfl dX6_lies_70 ?_
            refine lv_lload_n hx hb dX6_lies_73 rfl (lv_at hl 0 rfl) ?_
            refine va_calli (va_runS (As := [.long (s_tm (st cu)), .long x3_7]) (rest := []) ⟨hx, hb, C0.2.2.1, hown, hts⟩ (qX5_wheelOf l dC dI (xn ns) ad (xc ad ci st ln sv kv cu) (xT ci) A (s_tm (st cu)) x3_7 _ h) (va_cwS 2 hts gX6_lies_X5_wheelOf rfl rfl rfl (by decide +kernel) ⟨Nat.le_of_ble_eq_true rfl, Nat.le_of_ble_eq_true rfl⟩) ⟨xr_blind, xr_pre hP hK⟩ rfl rfl hl.1 rfl (lv_room (Nat.le_of_ble_eq_true rfl)) dX6_lies_74 ⟨Nat.le_of_ble_eq_true rfl, Nat.le_of_ble_eq_true rfl⟩) hS (fun _ _ h => h) (fun _ h => h) (fun r_9 _ t9 H locs ht hvm h hB _ _ hS => ?_)
            refine W.cs (cells' := 0) (slots' := 0) rfl rfl ?_
            have hP := x_th ht hB
            have hP : va_P (dC, dI) vwCl (xw (xn ns) ad (xc ad ci st ln sv kv cu)) H := hP
            refine lv_istore (lv' := [(5, .int r_9), (3, .long x3_7), (0, .ref (ad 0)), (1, .int x1), (2, .int x2)]) hx hb dX6_lies_77 hl (by decide) rfl (fun ls hl => ?_)
            refine lv_iload_n hx hb dX6_lies_79 rfl (lv_at hl 4 rfl) ?_
            refine lv_if_ne (tgt := 89) hx hb dX6_lies_80 (by decide) (fun c_10 => ?_) (fun c_10 => ?_)
            · have h := h.2 c_10
              refine lv_iload hx hb dX6_lies_89 (lv_at hl 0 rfl) ?_
              refine lv_lload_n hx hb dX6_lies_91 rfl (lv_at hl 1 rfl) ?_
              refine va_calli (va_runS (As := [.int r_9, .long x3_7]) (rest := []) ⟨hx, hb, C0.2.2.1, hown, hts⟩ (qX5_slotOf l dC dI (xn ns) ad (xc ad ci st ln sv kv cu) (xT ci) A r_9 x3_7 _ h) (va_cwS 2 hts gX6_lies_X5_slotOf rfl rfl rfl (by decide +kernel) ⟨Nat.le_of_ble_eq_true rfl, Nat.le_of_ble_eq_true rfl⟩) ⟨xr_blind, xr_pre hP hK⟩ rfl rfl hl.1 rfl (lv_room (Nat.le_of_ble_eq_true rfl)) dX6_lies_92 ⟨Nat.le_of_ble_eq_true rfl, Nat.le_of_ble_eq_true rfl⟩) hS (fun _ _ h => h) (fun _ h => h) (fun r_11 _ t9 H locs ht hvm h hB _ _ hS => ?_)
              refine W.cs (cells' := 0) (slots' := 0) rfl rfl ?_
              have hP := x_th ht hB
              have hP : va_P (dC, dI) vwCl (xw (xn ns) ad (xc ad ci st ln sv kv cu)) H := hP
              refine lv_i2l hx hb dX6_lies_95 rfl ?_
              exact W.lret (v := (r_11.toInt64)) hx hb hr (fun t ht hW => ⟨⟨(r_11.toInt64), (), rfl, h, ⟨ad, ns, hns, rfl, hAD, hcu, x_ht ht hP⟩⟩, hS.F ht⟩) hS.2.2 dX6_lies_96
            · have h := h.1 c_10
              refine lv_iload hx hb dX6_lies_83 (lv_at hl 0 rfl) ?_
              refine lv_i2l hx hb dX6_lies_85 rfl ?_
              refine lv_goto (tgt := 96) hx hb dX6_lies_86 (by decide) ?_
              exact W.lret (v := (r_9.toInt64)) hx hb hr (fun t ht hW => ⟨⟨(r_9.toInt64), (), rfl, h, ⟨ad, ns, hns, rfl, hAD, hcu, x_ht ht hP⟩⟩, hS.F ht⟩) hS.2.2 dX6_lies_96
          · have h := h.1 c_8
            refine lv_ldc2 (v := (-2000000005 : Int64)) hx hb hown (hts _ wX6_lies_k87) dX6_lies_62 ?_
            exact W.lret (v := (-2000000005 : Int64)) hx hb hr (fun t ht hW => ⟨⟨(-2000000005 : Int64), (), rfl, h, ⟨ad, ns, hns, rfl, hAD, hcu, x_ht ht hP⟩⟩, hS.F ht⟩) hS.2.2 dX6_lies_65
        · have h := h.1 c_5
          refine lv_aload_n hx hb dX6_lies_29 rfl (lv_at hl 0 rfl) ?_
          refine xr_get (D := (dC, dI)) (C := RX6) (T := TX6) (N := 4) (v := .ref (ad (xaS cu))) hx hb hts wX6_lies_c6 hown hK hP 0 (xq_c (by decide)) xe_X rfl 3 (by decide) wX6_lies_f33 rfl rfl dX6_lies_30 ?_
          refine xr_get (D := (dC, dI)) (C := RX4) (T := TX4) (N := 8) (v := .ref (ad (xaD0 cu))) hx hb hts wX6_lies_c4 hown hK hP (xaS cu) (xq_S hcu) (xe_S rfl) rfl 6 (by decide) wX6_lies_f65 rfl rfl dX6_lies_33 ?_
          refine lv_bipush (v := (11 : Int32)) hx hb dX6_lies_36 (by decide) ?_
          refine xr_aald (k := 11) (b := ad (xaD cu 11)) hx hb hK hP (xaD0 cu) 4 (xq_D0 hcu) xe_D0 rfl rfl rfl (x_in _ _ (by decide)) rfl dX6_lies_38 ?_
          refine lv_iload_n hx hb dX6_lies_39 rfl (lv_at hl 1 rfl) ?_
          obtain ⟨g_12, h⟩ := h
          refine xr_lald (k := x1.toNatClampNeg) hx hb hK hP (xaD cu 11) 1 (xq_D hcu (by decide)) (xe_D (by decide) rfl) rfl rfl g_12 dX6_lies_40 ?_
          exact W.lret (v := (s_du (st cu) 11 (x1.toNatClampNeg))) hx hb hr (fun t ht hW => ⟨⟨(s_du (st cu) 11 (x1.toNatClampNeg)), (), rfl, h, ⟨ad, ns, hns, rfl, hAD, hcu, x_ht ht hP⟩⟩, hS.F ht⟩) hS.2.2 dX6_lies_41
      · have h := h.2 c_4
        refine lv_ldc2 (v := (-2000000001 : Int64)) hx hb hown (hts _ wX6_lies_k41) dX6_lies_20 ?_
        exact W.lret (v := (-2000000001 : Int64)) hx hb hr (fun t ht hW => ⟨⟨(-2000000001 : Int64), (), rfl, h, ⟨ad, ns, hns, rfl, hAD, hcu, x_ht ht hP⟩⟩, hS.F ht⟩) hS.2.2 dX6_lies_23
abbrev rmX6_bits : Room := { frames := 1, cells := 0, slots := 0, locals := 25 }
theorem wX6_bits_k41 : Cond.constantLong RX6 41 (-2000000001) ∈ wsX6_bits := by decide +kernel
theorem wX6_bits_k87 : Cond.constantLong RX6 87 (-2000000005) ∈ wsX6_bits := by decide +kernel
theorem wX6_bits_c4 : ∀ w ∈ u_ws RX4 TX4 8, w ∈ wsX6_bits := by decide +kernel
theorem wX6_bits_f108 : Cond.fieldLink RX6 108 "DueWheels$State" "time" "J" ∈ wsX6_bits := by decide +kernel
theorem wX6_bits_c6 : ∀ w ∈ u_ws RX6 TX6 4, w ∈ wsX6_bits := by decide +kernel
theorem wX6_bits_f33 : Cond.fieldLink RX6 33 "DueWheels" "state" "LDueWheels$State;" ∈ wsX6_bits := by decide +kernel
theorem wX6_bits_f65 : Cond.fieldLink RX6 65 "DueWheels$State" "dues" "[[J" ∈ wsX6_bits := by decide +kernel
theorem wX6_bits_f146 : Cond.fieldLink RX6 146 "DueWheels$State" "end" "I" ∈ wsX6_bits := by decide +kernel
def LX6_bits_18  (st : Nat → StV) (cu : Nat) (x1 : Int32)  (post : Int64 → Prop) : Nat → Int64 → Int32 → Prop
  | 0, _, _ => False
  | n + 1, x2, x4 => (((s_en (st cu)) ≤ x4 → post x2) ∧ (¬ (s_en (st cu)) ≤ x4 → (vp_in x4 200 ∧ ∀ x5_5 : Int64, x5_5 = (s_du (st cu) 2 (x4.toNatClampNeg)) → ((x5_5 = (-2000000005 : Int64) → ∀ x4_7 : Int32, x4_7 = x4 + 1 → LX6_bits_18  st cu x1 post n x2 x4_7) ∧ (¬ x5_5 = (-2000000005 : Int64) → (PX5_wheelOf (s_tm (st cu)) x5_5 (fun (r_8 : Int32) => ((r_8 = x1 → (PX5_slotOf x1 x5_5 (fun (r_11 : Int32) => ∀ x2_12 : Int64, x2_12 = (x2 ||| ((1 : Int64) <<< (r_11.toInt64 &&& 63))) → ∀ x4_13 : Int32, x4_13 = x4 + 1 → LX6_bits_18  st cu x1 post n x2_12 x4_13))) ∧ (¬ r_8 = x1 → ∀ x4_10 : Int32, x4_10 = x4 + 1 → LX6_bits_18  st cu x1 post n x2 x4_10)))))))))
set_option maxHeartbeats 4000000 in
set_option maxRecDepth 100000 in
theorem kX6_bits_18 {p : Program} {e : Env} {s : State} {m : MethodId} {args : Array Value} {below : List Frame} {meth : Method} {c : Code} (l : Launch) (dC : Nat → ClassId) (dI : Nat → Nat → Nat) (ad : Nat → Nat) (ci : Nat → ClassId) (A : Nat → Prop) (ns : Nat) (hAD : xw_D (xn ns) ad A) (st : Nat → StV) (ln : Nat → LnV) (sv : SvV) (kv : KvV) (cu : Nat) (hcu : cu < ns) (hns : k_ns kv = ns) (x1 : Int32)  (post : Int64 → Prop) (C0 : xC p s m args meth c cX6_bits 7 (some .long) RX6 wsX6_bits (dC, dI) (xT ci)) : ∀ (n : Nat) (x2 : Int64) (x4 : Int32) (H : Heap) (locs : List Loc) (ls : Array Slot), LX6_bits_18  st cu x1 post n x2 x4 → va_P (dC, dI) vwCl (xw (xn ns) ad (xc ad ci st ln sv kv cu)) H → va_S A s.heap H locs → lv_has ls 7 [(0, .ref (ad 0)), (1, .int x1), (2, .long x2), (4, .int x4)] → W p l e rmX6_bits s m args below meth c H locs 0 0 (MQ below (va_Ql (fun r9 (u : Unit) => post r9 ) (fun u t => xB (dC, dI) ci A (ad 0) st ln sv kv cu t.heap) A) args s 0 0 A) (F0 m 18 ls []) := by
  obtain ⟨hx, hb, -, hr, hlocks, hown, hts, hK⟩ := id C0
  intro n
  induction n with
  | zero =>
    intro x2 x4 H locs ls h
    exact False.elim h
  | succ n ih =>
    intro x2 x4 H locs ls h hP hS hl
    rw [LX6_bits_18] at h
    refine lv_iload hx hb dX6_bits_18 (lv_at hl 3 rfl) ?_
    refine lv_aload_n hx hb dX6_bits_20 rfl (lv_at hl 0 rfl) ?_
    refine xr_get (D := (dC, dI)) (C := RX6) (T := TX6) (N := 4) (v := .ref (ad (xaS cu))) hx hb hts wX6_bits_c6 hown hK hP 0 (xq_c (by decide)) xe_X rfl 3 (by decide) wX6_bits_f33 rfl rfl dX6_bits_21 ?_
    refine xr_get (D := (dC, dI)) (C := RX4) (T := TX4) (N := 8) (v := .int (s_en (st cu))) hx hb hts wX6_bits_c4 hown hK hP (xaS cu) (xq_S hcu) (xe_S rfl) rfl 4 (by decide) wX6_bits_f146 rfl rfl dX6_bits_24 ?_
    refine lv_icmp_ge (tgt := 86) hx hb dX6_bits_27 (by decide) (fun c_3 => ?_) (fun c_3 => ?_)
    · have h := h.1 c_3
      refine lv_lload_n hx hb dX6_bits_86 rfl (lv_at hl 2 rfl) ?_
      exact W.lret (v := x2) hx hb hr (fun t ht hW => ⟨⟨x2, (), rfl, h, ⟨ad, ns, hns, rfl, hAD, hcu, x_ht ht hP⟩⟩, hS.F ht⟩) hS.2.2 dX6_bits_87
    · have h := h.2 c_3
      refine lv_aload_n hx hb dX6_bits_30 rfl (lv_at hl 0 rfl) ?_
      refine xr_get (D := (dC, dI)) (C := RX6) (T := TX6) (N := 4) (v := .ref (ad (xaS cu))) hx hb hts wX6_bits_c6 hown hK hP 0 (xq_c (by decide)) xe_X rfl 3 (by decide) wX6_bits_f33 rfl rfl dX6_bits_31 ?_
      refine xr_get (D := (dC, dI)) (C := RX4) (T := TX4) (N := 8) (v := .ref (ad (xaD0 cu))) hx hb hts wX6_bits_c4 hown hK hP (xaS cu) (xq_S hcu) (xe_S rfl) rfl 6 (by decide) wX6_bits_f65 rfl rfl dX6_bits_34 ?_
      refine lv_iconst (v := (2 : Int32)) hx hb dX6_bits_37 (by decide) ?_
      refine xr_aald (k := 2) (b := ad (xaD cu 2)) hx hb hK hP (xaD0 cu) 4 (xq_D0 hcu) xe_D0 rfl rfl rfl (x_in _ _ (by decide)) rfl dX6_bits_38 ?_
      refine lv_iload hx hb dX6_bits_39 (lv_at hl 3 rfl) ?_
      obtain ⟨g_4, h⟩ := h
      refine xr_lald (k := x4.toNatClampNeg) hx hb hK hP (xaD cu 2) 1 (xq_D hcu (by decide)) (xe_D (by decide) rfl) rfl rfl g_4 dX6_bits_41 ?_
      refine lv_topl (fun x5_5 ex5_5 => ?_)
      have h := h x5_5 ex5_5
      refine lv_lstore (lv' := [(5, .long x5_5), (0, .ref (ad 0)), (1, .int x1), (2, .long x2), (4, .int x4)]) hx hb dX6_bits_42 hl (by decide) rfl (fun ls hl => ?_)
      refine lv_lload hx hb dX6_bits_44 (lv_at hl 0 rfl) ?_
      refine lv_ldc2 (v := (-2000000005 : Int64)) hx hb hown (hts _ wX6_bits_k87) dX6_bits_46 ?_
      refine xr_if_lcmp_eq (tgt := 80) hx hb dX6_bits_49 dX6_bits_50 (by decide) (fun c_6 => ?_) (fun c_6 => ?_)
      · have h := h.1 c_6
        obtain ⟨x4_7, ex4_7⟩ : ∃ z : Int32, z = x4 + 1 := ⟨_, rfl⟩
        have h := h x4_7 ex4_7
        refine lv_iinc (v := x4_7) (lv' := [(4, .int x4_7), (5, .long x5_5), (0, .ref (ad 0)), (1, .int x1), (2, .long x2)]) hx hb dX6_bits_80 hl (k := 4) rfl (by rw [ex4_7]; rfl) (by decide) rfl (fun ls hl => ?_)
        refine lv_goto (tgt := 18) hx hb dX6_bits_83 (by decide) ?_
        exact ih x2 x4_7 _ _ _ h hP hS (lv_sub hl [2, 3, 4, 0] rfl)
      · have h := h.2 c_6
        refine lv_aload_n hx hb dX6_bits_53 rfl (lv_at hl 1 rfl) ?_
        refine xr_get (D := (dC, dI)) (C := RX6) (T := TX6) (N := 4) (v := .ref (ad (xaS cu))) hx hb hts wX6_bits_c6 hown hK hP 0 (xq_c (by decide)) xe_X rfl 3 (by decide) wX6_bits_f33 rfl rfl dX6_bits_54 ?_
        refine xr_get (D := (dC, dI)) (C := RX4) (T := TX4) (N := 8) (v := .long (s_tm (st cu))) hx hb hts wX6_bits_c4 hown hK hP (xaS cu) (xq_S hcu) (xe_S rfl) rfl 0 (by decide) wX6_bits_f108 rfl rfl dX6_bits_57 ?_
        refine lv_lload hx hb dX6_bits_60 (lv_at hl 0 rfl) ?_
        refine va_calli (va_runS (As := [.long (s_tm (st cu)), .long x5_5]) (rest := []) ⟨hx, hb, C0.2.2.1, hown, hts⟩ (qX5_wheelOf l dC dI (xn ns) ad (xc ad ci st ln sv kv cu) (xT ci) A (s_tm (st cu)) x5_5 _ h) (va_cwS 2 hts gX6_bits_X5_wheelOf rfl rfl rfl (by decide +kernel) ⟨Nat.le_of_ble_eq_true rfl, Nat.le_of_ble_eq_true rfl⟩) ⟨xr_blind, xr_pre hP hK⟩ rfl rfl hl.1 rfl (lv_room (Nat.le_of_ble_eq_true rfl)) dX6_bits_62 ⟨Nat.le_of_ble_eq_true rfl, Nat.le_of_ble_eq_true rfl⟩) hS (fun _ _ h => h) (fun _ h => h) (fun r_8 _ t9 H locs ht hvm h hB _ _ hS => ?_)
        refine W.cs (cells' := 0) (slots' := 0) rfl rfl ?_
        have hP := x_th ht hB
        have hP : va_P (dC, dI) vwCl (xw (xn ns) ad (xc ad ci st ln sv kv cu)) H := hP
        refine lv_iload_n hx hb dX6_bits_65 rfl (lv_at hl 2 rfl) ?_
        refine lv_icmp_ne (tgt := 80) hx hb dX6_bits_66 (by decide) (fun c_9 => ?_) (fun c_9 => ?_)
        · have h := h.2 c_9
          obtain ⟨x4_10, ex4_10⟩ : ∃ z : Int32, z = x4 + 1 := ⟨_, rfl⟩
          have h := h x4_10 ex4_10
          refine lv_iinc (v := x4_10) (lv' := [(4, .int x4_10), (5, .long x5_5), (0, .ref (ad 0)), (1, .int x1), (2, .long x2)]) hx hb dX6_bits_80 hl (k := 4) rfl (by rw [ex4_10]; rfl) (by decide) rfl (fun ls hl => ?_)
          refine lv_goto (tgt := 18) hx hb dX6_bits_83 (by decide) ?_
          exact ih x2 x4_10 _ _ _ h hP hS (lv_sub hl [2, 3, 4, 0] rfl)
        · have h := h.1 c_9
          refine lv_lload_n hx hb dX6_bits_69 rfl (lv_at hl 3 rfl) ?_
          refine lv_lconst (v := (1 : Int64)) hx hb dX6_bits_70 (by decide) ?_
          refine lv_iload_n hx hb dX6_bits_71 rfl (lv_at hl 2 rfl) ?_
          refine lv_lload hx hb dX6_bits_72 (lv_at hl 0 rfl) ?_
          refine va_calli (va_runS (As := [.int x1, .long x5_5]) (rest := [.long (1 : Int64), .long x2]) ⟨hx, hb, C0.2.2.1, hown, hts⟩ (qX5_slotOf l dC dI (xn ns) ad (xc ad ci st ln sv kv cu) (xT ci) A x1 x5_5 _ h) (va_cwS 2 hts gX6_bits_X5_slotOf rfl rfl rfl (by decide +kernel) ⟨Nat.le_of_ble_eq_true rfl, Nat.le_of_ble_eq_true rfl⟩) ⟨xr_blind, xr_pre hP hK⟩ rfl rfl hl.1 rfl (lv_room (Nat.le_of_ble_eq_true rfl)) dX6_bits_74 ⟨Nat.le_of_ble_eq_true rfl, Nat.le_of_ble_eq_true rfl⟩) hS (fun _ _ h => h) (fun _ h => h) (fun r_11 _ t9 H locs ht hvm h hB _ _ hS => ?_)
          refine W.cs (cells' := 0) (slots' := 0) rfl rfl ?_
          have hP := x_th ht hB
          have hP : va_P (dC, dI) vwCl (xw (xn ns) ad (xc ad ci st ln sv kv cu)) H := hP
          refine lv_lshl hx hb dX6_bits_77 rfl ?_
          refine lv_lor hx hb dX6_bits_78 ?_
          refine lv_topl (fun x2_12 ex2_12 => ?_)
          have h := h x2_12 ex2_12
          refine lv_lstore_n (lv' := [(2, .long x2_12), (5, .long x5_5), (0, .ref (ad 0)), (1, .int x1), (4, .int x4)]) hx hb dX6_bits_79 rfl hl (by decide) rfl (fun ls hl => ?_)
          obtain ⟨x4_13, ex4_13⟩ : ∃ z : Int32, z = x4 + 1 := ⟨_, rfl⟩
          have h := h x4_13 ex4_13
          refine lv_iinc (v := x4_13) (lv' := [(4, .int x4_13), (2, .long x2_12), (5, .long x5_5), (0, .ref (ad 0)), (1, .int x1)]) hx hb dX6_bits_80 hl (k := 4) rfl (by rw [ex4_13]; rfl) (by decide) rfl (fun ls hl => ?_)
          refine lv_goto (tgt := 18) hx hb dX6_bits_83 (by decide) ?_
          exact ih x2_12 x4_13 _ _ _ h hP hS (lv_sub hl [3, 4, 1, 0] rfl)
def PX6_bits  (st : Nat → StV) (cu : Nat) (x1 : Int32) (post : Int64 → Prop) : Prop :=
  ((x1 < 0 → post (-2000000001 : Int64)) ∧ (¬ x1 < 0 → ((x1 < (5 : Int32) → (∃ n_14 : Nat, LX6_bits_18  st cu x1  post n_14 (0 : Int64) (0 : Int32))) ∧ (¬ x1 < (5 : Int32) → post (-2000000001 : Int64)))))
set_option maxHeartbeats 4000000 in
set_option maxRecDepth 100000 in
theorem qX6_bits (l : Launch) (dC : Nat → ClassId) (dI : Nat → Nat → Nat) (ci : Nat → ClassId) (A : Nat → Prop) (a0 : Nat) (st : Nat → StV) (ln : Nat → LnV) (sv : SvV) (kv : KvV) (cu : Nat) (x1 : Int32) (post : Int64 → Prop) (h : PX6_bits st cu x1 post) : Met l yX6_bits wsX6_bits rmX6_bits (va_Pc [.ref a0, .int x1] (xPre (dC, dI) ci A (xB (dC, dI) ci A a0 st ln sv kv cu))) (va_Ql (fun r9 (u : Unit) => post r9 ) (fun u t => xB (dC, dI) ci A a0 st ln sv kv cu t.heap) A) 0 0 A := by
  refine Met.ofW (cc := cX6_bits) (maxL := 7) (ret := (some .long)) (by decide) rfl ?_
  intro p e s m args below meth c s₁ B hml hv
  obtain ⟨eargs, hP, hK, hN, hA⟩ := hv
  obtain ⟨ad, ns, hns, h0, hAD, hcu, hP⟩ := hP
  subst h0
  have C0 : xC p s m args meth c cX6_bits 7 (some .long) RX6 wsX6_bits (dC, dI) (xT ci) := ⟨B.exec, B.bytes, hml, B.returns, B.notSynchronized, findClass_of_methodNamed B.named, atoms_spec (ws := wsX6_bits) B.pre, hK⟩
  obtain ⟨hx, hb, -, hr, hlocks, hown, hts, -⟩ := id C0
  have hS : va_S A s.heap s.heap [] := va_S.rf
  have hl := lv_entry ([.ref (ad 0), .int x1]) (n := 7) (Nat.le_of_ble_eq_true rfl)
  have ef : entryFrame m args 7 = entryFrame m ([.ref (ad 0), .int x1] : List Value).toArray 7 := by rw [eargs]
  rw [ef, lg_entry_eq]
  generalize (lg_sl ([.ref (ad 0), .int x1]) ++ List.replicate (7 - (lg_sl ([.ref (ad 0), .int x1])).length) Slot.unset).toArray = ls at hl ⊢
  have hl : lv_has ls 7 [(0, .ref (ad 0)), (1, .int x1)] := hl
  have hP : va_P (dC, dI) vwCl (xw (xn ns) ad (xc ad ci st ln sv kv cu)) s.heap := hP
  unfold PX6_bits at h
  refine lv_iload_n hx hb dX6_bits_0 rfl (lv_at hl 1 rfl) ?_
  refine lv_if_lt (tgt := 9) hx hb dX6_bits_1 (by decide) (fun c_1 => ?_) (fun c_1 => ?_)
  · have h := h.1 c_1
    refine lv_ldc2 (v := (-2000000001 : Int64)) hx hb hown (hts _ wX6_bits_k41) dX6_bits_9 ?_
    exact W.lret (v := (-2000000001 : Int64)) hx hb hr (fun t ht hW => ⟨⟨(-2000000001 : Int64), (), rfl, h, ⟨ad, ns, hns, rfl, hAD, hcu, x_ht ht hP⟩⟩, hS.F ht⟩) hS.2.2 dX6_bits_12
  · have h := h.2 c_1
    refine lv_iload_n hx hb dX6_bits_4 rfl (lv_at hl 1 rfl) ?_
    refine lv_iconst (v := (5 : Int32)) hx hb dX6_bits_5 (by decide) ?_
    refine lv_icmp_lt (tgt := 13) hx hb dX6_bits_6 (by decide) (fun c_2 => ?_) (fun c_2 => ?_)
    · have h := h.1 c_2
      refine lv_lconst (v := (0 : Int64)) hx hb dX6_bits_13 (by decide) ?_
      refine lv_lstore_n (lv' := [(2, .long (0 : Int64)), (0, .ref (ad 0)), (1, .int x1)]) hx hb dX6_bits_14 rfl hl (by decide) rfl (fun ls hl => ?_)
      refine lv_iconst (v := (0 : Int32)) hx hb dX6_bits_15 (by decide) ?_
      refine lv_istore (lv' := [(4, .int (0 : Int32)), (2, .long (0 : Int64)), (0, .ref (ad 0)), (1, .int x1)]) hx hb dX6_bits_16 hl (by decide) rfl (fun ls hl => ?_)
      obtain ⟨n_14, h⟩ := h
      exact kX6_bits_18 l dC dI ad ci A ns hAD st ln sv kv cu  hcu hns x1  post C0  n_14 (0 : Int64) (0 : Int32) _ _ _ h hP hS (lv_sub hl [2, 3, 1, 0] rfl)
    · have h := h.2 c_2
      refine lv_ldc2 (v := (-2000000001 : Int64)) hx hb hown (hts _ wX6_bits_k41) dX6_bits_9 ?_
      exact W.lret (v := (-2000000001 : Int64)) hx hb hr (fun t ht hW => ⟨⟨(-2000000001 : Int64), (), rfl, h, ⟨ad, ns, hns, rfl, hAD, hcu, x_ht ht hP⟩⟩, hS.F ht⟩) hS.2.2 dX6_bits_12
abbrev rmX6_many : Room := { frames := 2, cells := 0, slots := 0, locals := 50 }
theorem wX6_many_c6 : ∀ w ∈ u_ws RX6 TX6 4, w ∈ wsX6_many := by decide +kernel
theorem wX6_many_f33 : Cond.fieldLink RX6 33 "DueWheels" "state" "LDueWheels$State;" ∈ wsX6_many := by decide +kernel
theorem wX6_many_c4 : ∀ w ∈ u_ws RX4 TX4 8, w ∈ wsX6_many := by decide +kernel
theorem wX6_many_f146 : Cond.fieldLink RX6 146 "DueWheels$State" "end" "I" ∈ wsX6_many := by decide +kernel
theorem wX6_many_k41 : Cond.constantLong RX6 41 (-2000000001) ∈ wsX6_many := by decide +kernel
def LX6_many_17  (st : Nat → StV) (cu : Nat) (x1 : Int32) (x2 : Int32)  (post : Int64 → Prop) : Nat → Int64 → Int32 → Prop
  | 0, _, _ => False
  | n + 1, x3, x5 => (((s_en (st cu)) ≤ x5 → post x3) ∧ (¬ (s_en (st cu)) ≤ x5 → (PX4_liesIn (st cu) x5 x1 x2 (fun (r_4 : Int32) => ((r_4 = 0 → ∀ x5_6 : Int32, x5_6 = x5 + 1 → LX6_many_17  st cu x1 x2 post n x3 x5_6) ∧ (¬ r_4 = 0 → ∀ x3_7 : Int64, x3_7 = (x3 + (1 : Int64)) → ∀ x5_8 : Int32, x5_8 = x5 + 1 → LX6_many_17  st cu x1 x2 post n x3_7 x5_8))))))
set_option maxHeartbeats 4000000 in
set_option maxRecDepth 100000 in
theorem kX6_many_17 {p : Program} {e : Env} {s : State} {m : MethodId} {args : Array Value} {below : List Frame} {meth : Method} {c : Code} (l : Launch) (dC : Nat → ClassId) (dI : Nat → Nat → Nat) (ad : Nat → Nat) (ci : Nat → ClassId) (A : Nat → Prop) (ns : Nat) (hAD : xw_D (xn ns) ad A) (st : Nat → StV) (ln : Nat → LnV) (sv : SvV) (kv : KvV) (cu : Nat) (hcu : cu < ns) (hns : k_ns kv = ns) (x1 : Int32) (x2 : Int32)  (post : Int64 → Prop) (C0 : xC p s m args meth c cX6_many 6 (some .long) RX6 wsX6_many (dC, dI) (xT ci)) : ∀ (n : Nat) (x3 : Int64) (x5 : Int32) (H : Heap) (locs : List Loc) (ls : Array Slot), LX6_many_17  st cu x1 x2 post n x3 x5 → va_P (dC, dI) vwCl (xw (xn ns) ad (xc ad ci st ln sv kv cu)) H → va_S A s.heap H locs → lv_has ls 6 [(0, .ref (ad 0)), (1, .int x1), (2, .int x2), (3, .long x3), (5, .int x5)] → W p l e rmX6_many s m args below meth c H locs 0 0 (MQ below (va_Ql (fun r9 (u : Unit) => post r9 ) (fun u t => xB (dC, dI) ci A (ad 0) st ln sv kv cu t.heap) A) args s 0 0 A) (F0 m 17 ls []) := by
  obtain ⟨hx, hb, -, hr, hlocks, hown, hts, hK⟩ := id C0
  intro n
  induction n with
  | zero =>
    intro x3 x5 H locs ls h
    exact False.elim h
  | succ n ih =>
    intro x3 x5 H locs ls h hP hS hl
    rw [LX6_many_17] at h
    refine lv_iload hx hb dX6_many_17 (lv_at hl 4 rfl) ?_
    refine lv_aload_n hx hb dX6_many_19 rfl (lv_at hl 0 rfl) ?_
    refine xr_get (D := (dC, dI)) (C := RX6) (T := TX6) (N := 4) (v := .ref (ad (xaS cu))) hx hb hts wX6_many_c6 hown hK hP 0 (xq_c (by decide)) xe_X rfl 3 (by decide) wX6_many_f33 rfl rfl dX6_many_20 ?_
    refine xr_get (D := (dC, dI)) (C := RX4) (T := TX4) (N := 8) (v := .int (s_en (st cu))) hx hb hts wX6_many_c4 hown hK hP (xaS cu) (xq_S hcu) (xe_S rfl) rfl 4 (by decide) wX6_many_f146 rfl rfl dX6_many_23 ?_
    refine lv_icmp_ge (tgt := 53) hx hb dX6_many_26 (by decide) (fun c_3 => ?_) (fun c_3 => ?_)
    · have h := h.1 c_3
      refine lv_lload_n hx hb dX6_many_53 rfl (lv_at hl 3 rfl) ?_
      exact W.lret (v := x3) hx hb hr (fun t ht hW => ⟨⟨x3, (), rfl, h, ⟨ad, ns, hns, rfl, hAD, hcu, x_ht ht hP⟩⟩, hS.F ht⟩) hS.2.2 dX6_many_54
    · have h := h.2 c_3
      refine lv_aload_n hx hb dX6_many_29 rfl (lv_at hl 0 rfl) ?_
      refine xr_get (D := (dC, dI)) (C := RX6) (T := TX6) (N := 4) (v := .ref (ad (xaS cu))) hx hb hts wX6_many_c6 hown hK hP 0 (xq_c (by decide)) xe_X rfl 3 (by decide) wX6_many_f33 rfl rfl dX6_many_30 ?_
      refine lv_iload hx hb dX6_many_33 (lv_at hl 4 rfl) ?_
      refine lv_iload_n hx hb dX6_many_35 rfl (lv_at hl 1 rfl) ?_
      refine lv_iload_n hx hb dX6_many_36 rfl (lv_at hl 2 rfl) ?_
      have hP9 := x_e1 cu hP
      refine va_calli (va_runV (As := [.int x5, .int x1, .int x2]) (rest := []) ⟨hx, hb, C0.2.2.1, hown, hts⟩ (qX4_liesIn l dC dI ad ci A ns hAD st (st cu) ln sv kv cu cu hcu x5 x1 x2 _ h) (cwV 3 hts gX6_many_X4_liesIn rfl rfl rfl (by decide +kernel) ⟨Nat.le_of_ble_eq_true rfl, Nat.le_of_ble_eq_true rfl⟩) ⟨xr_blind, xr_recv (r := (RX4, TX4, 8)) hK hP (xaS cu) (xq_S hcu) (xe_S rfl) rfl, xr_pre hP9 hK⟩ rfl rfl hl.1 rfl (lv_room (Nat.le_of_ble_eq_true rfl)) dX6_many_37 ⟨Nat.le_of_ble_eq_true rfl, Nat.le_of_ble_eq_true rfl⟩) hS (fun _ _ h => h) (fun _ h => h) (fun r_4 _ t9 H locs ht hvm h hB _ _ hS => ?_)
      refine W.cs (cells' := 0) (slots' := 0) rfl rfl ?_
      have hP := x_th ht hB
      have hP : va_P (dC, dI) vwCl (xw (xn ns) ad (xc ad ci st ln sv kv cu)) H := by simp only [x_eta] at hP; exact hP
      refine lv_if_eq (tgt := 47) hx hb dX6_many_40 (by decide) (fun c_5 => ?_) (fun c_5 => ?_)
      · have h := h.1 c_5
        obtain ⟨x5_6, ex5_6⟩ : ∃ z : Int32, z = x5 + 1 := ⟨_, rfl⟩
        have h := h x5_6 ex5_6
        refine lv_iinc (v := x5_6) (lv' := [(5, .int x5_6), (0, .ref (ad 0)), (1, .int x1), (2, .int x2), (3, .long x3)]) hx hb dX6_many_47 hl (k := 4) rfl (by rw [ex5_6]; rfl) (by decide) rfl (fun ls hl => ?_)
        refine lv_goto (tgt := 17) hx hb dX6_many_50 (by decide) ?_
        exact ih x3 x5_6 _ _ _ h hP hS (lv_sub hl [1, 2, 3, 4, 0] rfl)
      · have h := h.2 c_5
        refine lv_lload_n hx hb dX6_many_43 rfl (lv_at hl 3 rfl) ?_
        refine lv_lconst (v := (1 : Int64)) hx hb dX6_many_44 (by decide) ?_
        refine lv_ladd hx hb dX6_many_45 ?_
        refine lv_topl (fun x3_7 ex3_7 => ?_)
        have h := h x3_7 ex3_7
        refine lv_lstore_n (lv' := [(3, .long x3_7), (0, .ref (ad 0)), (1, .int x1), (2, .int x2), (5, .int x5)]) hx hb dX6_many_46 rfl hl (by decide) rfl (fun ls hl => ?_)
        obtain ⟨x5_8, ex5_8⟩ : ∃ z : Int32, z = x5 + 1 := ⟨_, rfl⟩
        have h := h x5_8 ex5_8
        refine lv_iinc (v := x5_8) (lv' := [(5, .int x5_8), (3, .long x3_7), (0, .ref (ad 0)), (1, .int x1), (2, .int x2)]) hx hb dX6_many_47 hl (k := 4) rfl (by rw [ex5_8]; rfl) (by decide) rfl (fun ls hl => ?_)
        refine lv_goto (tgt := 17) hx hb dX6_many_50 (by decide) ?_
        exact ih x3_7 x5_8 _ _ _ h hP hS (lv_sub hl [2, 3, 4, 1, 0] rfl)
def PX6_many  (st : Nat → StV) (cu : Nat) (x1 : Int32) (x2 : Int32) (post : Int64 → Prop) : Prop :=
  (PX5_isSlot x1 x2 (fun (r_1 : Int32) => ((r_1 = 0 → post (-2000000001 : Int64)) ∧ (¬ r_1 = 0 → (∃ n_9 : Nat, LX6_many_17  st cu x1 x2  post n_9 (0 : Int64) (0 : Int32))))))
set_option maxHeartbeats 4000000 in
set_option maxRecDepth 100000 in
theorem qX6_many (l : Launch) (dC : Nat → ClassId) (dI : Nat → Nat → Nat) (ci : Nat → ClassId) (A : Nat → Prop) (a0 : Nat) (st : Nat → StV) (ln : Nat → LnV) (sv : SvV) (kv : KvV) (cu : Nat) (x1 : Int32) (x2 : Int32) (post : Int64 → Prop) (h : PX6_many st cu x1 x2 post) : Met l yX6_many wsX6_many rmX6_many (va_Pc [.ref a0, .int x1, .int x2] (xPre (dC, dI) ci A (xB (dC, dI) ci A a0 st ln sv kv cu))) (va_Ql (fun r9 (u : Unit) => post r9 ) (fun u t => xB (dC, dI) ci A a0 st ln sv kv cu t.heap) A) 0 0 A := by
  refine Met.ofW (cc := cX6_many) (maxL := 6) (ret := (some .long)) (by decide) rfl ?_
  intro p e s m args below meth c s₁ B hml hv
  obtain ⟨eargs, hP, hK, hN, hA⟩ := hv
  obtain ⟨ad, ns, hns, h0, hAD, hcu, hP⟩ := hP
  subst h0
  have C0 : xC p s m args meth c cX6_many 6 (some .long) RX6 wsX6_many (dC, dI) (xT ci) := ⟨B.exec, B.bytes, hml, B.returns, B.notSynchronized, findClass_of_methodNamed B.named, atoms_spec (ws := wsX6_many) B.pre, hK⟩
  obtain ⟨hx, hb, -, hr, hlocks, hown, hts, -⟩ := id C0
  have hS : va_S A s.heap s.heap [] := va_S.rf
  have hl := lv_entry ([.ref (ad 0), .int x1, .int x2]) (n := 6) (Nat.le_of_ble_eq_true rfl)
  have ef : entryFrame m args 6 = entryFrame m ([.ref (ad 0), .int x1, .int x2] : List Value).toArray 6 := by rw [eargs]
  rw [ef, lg_entry_eq]
  generalize (lg_sl ([.ref (ad 0), .int x1, .int x2]) ++ List.replicate (6 - (lg_sl ([.ref (ad 0), .int x1, .int x2])).length) Slot.unset).toArray = ls at hl ⊢
  have hl : lv_has ls 6 [(0, .ref (ad 0)), (1, .int x1), (2, .int x2)] := hl
  have hP : va_P (dC, dI) vwCl (xw (xn ns) ad (xc ad ci st ln sv kv cu)) s.heap := hP
  unfold PX6_many at h
  refine lv_iload_n hx hb dX6_many_0 rfl (lv_at hl 1 rfl) ?_
  refine lv_iload_n hx hb dX6_many_1 rfl (lv_at hl 2 rfl) ?_
  refine va_calli (va_runS (As := [.int x1, .int x2]) (rest := []) ⟨hx, hb, C0.2.2.1, hown, hts⟩ (qX5_isSlot l dC dI (xn ns) ad (xc ad ci st ln sv kv cu) (xT ci) A x1 x2 _ h) (va_cwS 2 hts gX6_many_X5_isSlot rfl rfl rfl (by decide +kernel) ⟨Nat.le_of_ble_eq_true rfl, Nat.le_of_ble_eq_true rfl⟩) ⟨xr_blind, xr_pre hP hK⟩ rfl rfl hl.1 rfl (lv_room (Nat.le_of_ble_eq_true rfl)) dX6_many_2 ⟨Nat.le_of_ble_eq_true rfl, Nat.le_of_ble_eq_true rfl⟩) hS (fun _ _ h => h) (fun _ h => h) (fun r_1 _ t9 H locs ht hvm h hB _ _ hS => ?_)
  refine W.cs (cells' := 0) (slots' := 0) rfl rfl ?_
  have hP := x_th ht hB
  have hP : va_P (dC, dI) vwCl (xw (xn ns) ad (xc ad ci st ln sv kv cu)) H := hP
  refine lv_if_ne (tgt := 12) hx hb dX6_many_5 (by decide) (fun c_2 => ?_) (fun c_2 => ?_)
  · have h := h.2 c_2
    refine lv_lconst (v := (0 : Int64)) hx hb dX6_many_12 (by decide) ?_
    refine lv_lstore_n (lv' := [(3, .long (0 : Int64)), (0, .ref (ad 0)), (1, .int x1), (2, .int x2)]) hx hb dX6_many_13 rfl hl (by decide) rfl (fun ls hl => ?_)
    refine lv_iconst (v := (0 : Int32)) hx hb dX6_many_14 (by decide) ?_
    refine lv_istore (lv' := [(5, .int (0 : Int32)), (3, .long (0 : Int64)), (0, .ref (ad 0)), (1, .int x1), (2, .int x2)]) hx hb dX6_many_15 hl (by decide) rfl (fun ls hl => ?_)
    obtain ⟨n_9, h⟩ := h
    exact kX6_many_17 l dC dI ad ci A ns hAD st ln sv kv cu  hcu hns x1 x2  post C0  n_9 (0 : Int64) (0 : Int32) _ _ _ h hP hS (lv_sub hl [2, 3, 4, 1, 0] rfl)
  · have h := h.1 c_2
    refine lv_ldc2 (v := (-2000000001 : Int64)) hx hb hown (hts _ wX6_many_k41) dX6_many_8 ?_
    exact W.lret (v := (-2000000001 : Int64)) hx hb hr (fun t ht hW => ⟨⟨(-2000000001 : Int64), (), rfl, h, ⟨ad, ns, hns, rfl, hAD, hcu, x_ht ht hP⟩⟩, hS.F ht⟩) hS.2.2 dX6_many_11
abbrev rmX6_in : Room := { frames := 2, cells := 0, slots := 0, locals := 50 }
theorem wX6_in_k41 : Cond.constantLong RX6 41 (-2000000001) ∈ wsX6_in := by decide +kernel
theorem wX6_in_k87 : Cond.constantLong RX6 87 (-2000000005) ∈ wsX6_in := by decide +kernel
theorem wX6_in_c6 : ∀ w ∈ u_ws RX6 TX6 4, w ∈ wsX6_in := by decide +kernel
theorem wX6_in_f33 : Cond.fieldLink RX6 33 "DueWheels" "state" "LDueWheels$State;" ∈ wsX6_in := by decide +kernel
theorem wX6_in_c4 : ∀ w ∈ u_ws RX4 TX4 8, w ∈ wsX6_in := by decide +kernel
theorem wX6_in_f146 : Cond.fieldLink RX6 146 "DueWheels$State" "end" "I" ∈ wsX6_in := by decide +kernel
def LX6_in_22  (st : Nat → StV) (cu : Nat) (x1 : Int32) (x2 : Int32) (x3 : Int32)  (post : Int64 → Prop) : Nat → Int32 → Int32 → Prop
  | 0, _, _ => False
  | n + 1, x4, x5 => (((s_en (st cu)) ≤ x5 → post (-2000000005 : Int64)) ∧ (¬ (s_en (st cu)) ≤ x5 → (PX4_liesIn (st cu) x5 x1 x2 (fun (r_5 : Int32) => ((r_5 = 0 → ∀ x5_7 : Int32, x5_7 = x5 + 1 → LX6_in_22  st cu x1 x2 x3 post n x4 x5_7) ∧ (¬ r_5 = 0 → ((x4 = x3 → post (x5.toInt64)) ∧ (¬ x4 = x3 → ∀ x4_9 : Int32, x4_9 = x4 + 1 → ∀ x5_10 : Int32, x5_10 = x5 + 1 → LX6_in_22  st cu x1 x2 x3 post n x4_9 x5_10))))))))
set_option maxHeartbeats 4000000 in
set_option maxRecDepth 100000 in
theorem kX6_in_22 {p : Program} {e : Env} {s : State} {m : MethodId} {args : Array Value} {below : List Frame} {meth : Method} {c : Code} (l : Launch) (dC : Nat → ClassId) (dI : Nat → Nat → Nat) (ad : Nat → Nat) (ci : Nat → ClassId) (A : Nat → Prop) (ns : Nat) (hAD : xw_D (xn ns) ad A) (st : Nat → StV) (ln : Nat → LnV) (sv : SvV) (kv : KvV) (cu : Nat) (hcu : cu < ns) (hns : k_ns kv = ns) (x1 : Int32) (x2 : Int32) (x3 : Int32)  (post : Int64 → Prop) (C0 : xC p s m args meth c cX6_in 6 (some .long) RX6 wsX6_in (dC, dI) (xT ci)) : ∀ (n : Nat) (x4 : Int32) (x5 : Int32) (H : Heap) (locs : List Loc) (ls : Array Slot), LX6_in_22  st cu x1 x2 x3 post n x4 x5 → va_P (dC, dI) vwCl (xw (xn ns) ad (xc ad ci st ln sv kv cu)) H → va_S A s.heap H locs → lv_has ls 6 [(0, .ref (ad 0)), (1, .int x1), (2, .int x2), (3, .int x3), (4, .int x4), (5, .int x5)] → W p l e rmX6_in s m args below meth c H locs 0 0 (MQ below (va_Ql (fun r9 (u : Unit) => post r9 ) (fun u t => xB (dC, dI) ci A (ad 0) st ln sv kv cu t.heap) A) args s 0 0 A) (F0 m 22 ls []) := by
  obtain ⟨hx, hb, -, hr, hlocks, hown, hts, hK⟩ := id C0
  intro n
  induction n with
  | zero =>
    intro x4 x5 H locs ls h
    exact False.elim h
  | succ n ih =>
    intro x4 x5 H locs ls h hP hS hl
    rw [LX6_in_22] at h
    refine lv_iload hx hb dX6_in_22 (lv_at hl 5 rfl) ?_
    refine lv_aload_n hx hb dX6_in_24 rfl (lv_at hl 0 rfl) ?_
    refine xr_get (D := (dC, dI)) (C := RX6) (T := TX6) (N := 4) (v := .ref (ad (xaS cu))) hx hb hts wX6_in_c6 hown hK hP 0 (xq_c (by decide)) xe_X rfl 3 (by decide) wX6_in_f33 rfl rfl dX6_in_25 ?_
    refine xr_get (D := (dC, dI)) (C := RX4) (T := TX4) (N := 8) (v := .int (s_en (st cu))) hx hb hts wX6_in_c4 hown hK hP (xaS cu) (xq_S hcu) (xe_S rfl) rfl 4 (by decide) wX6_in_f146 rfl rfl dX6_in_28 ?_
    refine lv_icmp_ge (tgt := 67) hx hb dX6_in_31 (by decide) (fun c_4 => ?_) (fun c_4 => ?_)
    · have h := h.1 c_4
      refine lv_ldc2 (v := (-2000000005 : Int64)) hx hb hown (hts _ wX6_in_k87) dX6_in_67 ?_
      exact W.lret (v := (-2000000005 : Int64)) hx hb hr (fun t ht hW => ⟨⟨(-2000000005 : Int64), (), rfl, h, ⟨ad, ns, hns, rfl, hAD, hcu, x_ht ht hP⟩⟩, hS.F ht⟩) hS.2.2 dX6_in_70
    · have h := h.2 c_4
      refine lv_aload_n hx hb dX6_in_34 rfl (lv_at hl 0 rfl) ?_
      refine xr_get (D := (dC, dI)) (C := RX6) (T := TX6) (N := 4) (v := .ref (ad (xaS cu))) hx hb hts wX6_in_c6 hown hK hP 0 (xq_c (by decide)) xe_X rfl 3 (by decide) wX6_in_f33 rfl rfl dX6_in_35 ?_
      refine lv_iload hx hb dX6_in_38 (lv_at hl 5 rfl) ?_
      refine lv_iload_n hx hb dX6_in_40 rfl (lv_at hl 1 rfl) ?_
      refine lv_iload_n hx hb dX6_in_41 rfl (lv_at hl 2 rfl) ?_
      have hP9 := x_e1 cu hP
      refine va_calli (va_runV (As := [.int x5, .int x1, .int x2]) (rest := []) ⟨hx, hb, C0.2.2.1, hown, hts⟩ (qX4_liesIn l dC dI ad ci A ns hAD st (st cu) ln sv kv cu cu hcu x5 x1 x2 _ h) (cwV 3 hts gX6_in_X4_liesIn rfl rfl rfl (by decide +kernel) ⟨Nat.le_of_ble_eq_true rfl, Nat.le_of_ble_eq_true rfl⟩) ⟨xr_blind, xr_recv (r := (RX4, TX4, 8)) hK hP (xaS cu) (xq_S hcu) (xe_S rfl) rfl, xr_pre hP9 hK⟩ rfl rfl hl.1 rfl (lv_room (Nat.le_of_ble_eq_true rfl)) dX6_in_42 ⟨Nat.le_of_ble_eq_true rfl, Nat.le_of_ble_eq_true rfl⟩) hS (fun _ _ h => h) (fun _ h => h) (fun r_5 _ t9 H locs ht hvm h hB _ _ hS => ?_)
      refine W.cs (cells' := 0) (slots' := 0) rfl rfl ?_
      have hP := x_th ht hB
      have hP : va_P (dC, dI) vwCl (xw (xn ns) ad (xc ad ci st ln sv kv cu)) H := by simp only [x_eta] at hP; exact hP
      refine lv_if_eq (tgt := 61) hx hb dX6_in_45 (by decide) (fun c_6 => ?_) (fun c_6 => ?_)
      · have h := h.1 c_6
        obtain ⟨x5_7, ex5_7⟩ : ∃ z : Int32, z = x5 + 1 := ⟨_, rfl⟩
        have h := h x5_7 ex5_7
        refine lv_iinc (v := x5_7) (lv' := [(5, .int x5_7), (0, .ref (ad 0)), (1, .int x1), (2, .int x2), (3, .int x3), (4, .int x4)]) hx hb dX6_in_61 hl (k := 5) rfl (by rw [ex5_7]; rfl) (by decide) rfl (fun ls hl => ?_)
        refine lv_goto (tgt := 22) hx hb dX6_in_64 (by decide) ?_
        exact ih x4 x5_7 _ _ _ h hP hS (lv_sub hl [1, 2, 3, 4, 5, 0] rfl)
      · have h := h.2 c_6
        refine lv_iload hx hb dX6_in_48 (lv_at hl 4 rfl) ?_
        refine lv_iload_n hx hb dX6_in_50 rfl (lv_at hl 3 rfl) ?_
        refine lv_icmp_ne (tgt := 58) hx hb dX6_in_51 (by decide) (fun c_8 => ?_) (fun c_8 => ?_)
        · have h := h.2 c_8
          obtain ⟨x4_9, ex4_9⟩ : ∃ z : Int32, z = x4 + 1 := ⟨_, rfl⟩
          have h := h x4_9 ex4_9
          refine lv_iinc (v := x4_9) (lv' := [(4, .int x4_9), (0, .ref (ad 0)), (1, .int x1), (2, .int x2), (3, .int x3), (5, .int x5)]) hx hb dX6_in_58 hl (k := 4) rfl (by rw [ex4_9]; rfl) (by decide) rfl (fun ls hl => ?_)
          obtain ⟨x5_10, ex5_10⟩ : ∃ z : Int32, z = x5 + 1 := ⟨_, rfl⟩
          have h := h x5_10 ex5_10
          refine lv_iinc (v := x5_10) (lv' := [(5, .int x5_10), (4, .int x4_9), (0, .ref (ad 0)), (1, .int x1), (2, .int x2), (3, .int x3)]) hx hb dX6_in_61 hl (k := 5) rfl (by rw [ex5_10]; rfl) (by decide) rfl (fun ls hl => ?_)
          refine lv_goto (tgt := 22) hx hb dX6_in_64 (by decide) ?_
          exact ih x4_9 x5_10 _ _ _ h hP hS (lv_sub hl [2, 3, 4, 5, 1, 0] rfl)
        · have h := h.1 c_8
          refine lv_iload hx hb dX6_in_54 (lv_at hl 5 rfl) ?_
          refine lv_i2l hx hb dX6_in_56 rfl ?_
          exact W.lret (v := (x5.toInt64)) hx hb hr (fun t ht hW => ⟨⟨(x5.toInt64), (), rfl, h, ⟨ad, ns, hns, rfl, hAD, hcu, x_ht ht hP⟩⟩, hS.F ht⟩) hS.2.2 dX6_in_57
def PX6_in  (st : Nat → StV) (cu : Nat) (x1 : Int32) (x2 : Int32) (x3 : Int32) (post : Int64 → Prop) : Prop :=
  (PX5_isSlot x1 x2 (fun (r_1 : Int32) => ((r_1 = 0 → post (-2000000001 : Int64)) ∧ (¬ r_1 = 0 → ((0 ≤ x3 → (∃ n_11 : Nat, LX6_in_22  st cu x1 x2 x3  post n_11 (0 : Int32) (0 : Int32))) ∧ (¬ 0 ≤ x3 → post (-2000000001 : Int64)))))))
set_option maxHeartbeats 4000000 in
set_option maxRecDepth 100000 in
theorem qX6_in (l : Launch) (dC : Nat → ClassId) (dI : Nat → Nat → Nat) (ci : Nat → ClassId) (A : Nat → Prop) (a0 : Nat) (st : Nat → StV) (ln : Nat → LnV) (sv : SvV) (kv : KvV) (cu : Nat) (x1 : Int32) (x2 : Int32) (x3 : Int32) (post : Int64 → Prop) (h : PX6_in st cu x1 x2 x3 post) : Met l yX6_in wsX6_in rmX6_in (va_Pc [.ref a0, .int x1, .int x2, .int x3] (xPre (dC, dI) ci A (xB (dC, dI) ci A a0 st ln sv kv cu))) (va_Ql (fun r9 (u : Unit) => post r9 ) (fun u t => xB (dC, dI) ci A a0 st ln sv kv cu t.heap) A) 0 0 A := by
  refine Met.ofW (cc := cX6_in) (maxL := 6) (ret := (some .long)) (by decide) rfl ?_
  intro p e s m args below meth c s₁ B hml hv
  obtain ⟨eargs, hP, hK, hN, hA⟩ := hv
  obtain ⟨ad, ns, hns, h0, hAD, hcu, hP⟩ := hP
  subst h0
  have C0 : xC p s m args meth c cX6_in 6 (some .long) RX6 wsX6_in (dC, dI) (xT ci) := ⟨B.exec, B.bytes, hml, B.returns, B.notSynchronized, findClass_of_methodNamed B.named, atoms_spec (ws := wsX6_in) B.pre, hK⟩
  obtain ⟨hx, hb, -, hr, hlocks, hown, hts, -⟩ := id C0
  have hS : va_S A s.heap s.heap [] := va_S.rf
  have hl := lv_entry ([.ref (ad 0), .int x1, .int x2, .int x3]) (n := 6) (Nat.le_of_ble_eq_true rfl)
  have ef : entryFrame m args 6 = entryFrame m ([.ref (ad 0), .int x1, .int x2, .int x3] : List Value).toArray 6 := by rw [eargs]
  rw [ef, lg_entry_eq]
  generalize (lg_sl ([.ref (ad 0), .int x1, .int x2, .int x3]) ++ List.replicate (6 - (lg_sl ([.ref (ad 0), .int x1, .int x2, .int x3])).length) Slot.unset).toArray = ls at hl ⊢
  have hl : lv_has ls 6 [(0, .ref (ad 0)), (1, .int x1), (2, .int x2), (3, .int x3)] := hl
  have hP : va_P (dC, dI) vwCl (xw (xn ns) ad (xc ad ci st ln sv kv cu)) s.heap := hP
  unfold PX6_in at h
  refine lv_iload_n hx hb dX6_in_0 rfl (lv_at hl 1 rfl) ?_
  refine lv_iload_n hx hb dX6_in_1 rfl (lv_at hl 2 rfl) ?_
  refine va_calli (va_runS (As := [.int x1, .int x2]) (rest := []) ⟨hx, hb, C0.2.2.1, hown, hts⟩ (qX5_isSlot l dC dI (xn ns) ad (xc ad ci st ln sv kv cu) (xT ci) A x1 x2 _ h) (va_cwS 2 hts gX6_in_X5_isSlot rfl rfl rfl (by decide +kernel) ⟨Nat.le_of_ble_eq_true rfl, Nat.le_of_ble_eq_true rfl⟩) ⟨xr_blind, xr_pre hP hK⟩ rfl rfl hl.1 rfl (lv_room (Nat.le_of_ble_eq_true rfl)) dX6_in_2 ⟨Nat.le_of_ble_eq_true rfl, Nat.le_of_ble_eq_true rfl⟩) hS (fun _ _ h => h) (fun _ h => h) (fun r_1 _ t9 H locs ht hvm h hB _ _ hS => ?_)
  refine W.cs (cells' := 0) (slots' := 0) rfl rfl ?_
  have hP := x_th ht hB
  have hP : va_P (dC, dI) vwCl (xw (xn ns) ad (xc ad ci st ln sv kv cu)) H := hP
  refine lv_if_eq (tgt := 12) hx hb dX6_in_5 (by decide) (fun c_2 => ?_) (fun c_2 => ?_)
  · have h := h.1 c_2
    refine lv_ldc2 (v := (-2000000001 : Int64)) hx hb hown (hts _ wX6_in_k41) dX6_in_12 ?_
    exact W.lret (v := (-2000000001 : Int64)) hx hb hr (fun t ht hW => ⟨⟨(-2000000001 : Int64), (), rfl, h, ⟨ad, ns, hns, rfl, hAD, hcu, x_ht ht hP⟩⟩, hS.F ht⟩) hS.2.2 dX6_in_15
  · have h := h.2 c_2
    refine lv_iload_n hx hb dX6_in_8 rfl (lv_at hl 3 rfl) ?_
    refine lv_if_ge (tgt := 16) hx hb dX6_in_9 (by decide) (fun c_3 => ?_) (fun c_3 => ?_)
    · have h := h.1 c_3
      refine lv_iconst (v := (0 : Int32)) hx hb dX6_in_16 (by decide) ?_
      refine lv_istore (lv' := [(4, .int (0 : Int32)), (0, .ref (ad 0)), (1, .int x1), (2, .int x2), (3, .int x3)]) hx hb dX6_in_17 hl (by decide) rfl (fun ls hl => ?_)
      refine lv_iconst (v := (0 : Int32)) hx hb dX6_in_19 (by decide) ?_
      refine lv_istore (lv' := [(5, .int (0 : Int32)), (4, .int (0 : Int32)), (0, .ref (ad 0)), (1, .int x1), (2, .int x2), (3, .int x3)]) hx hb dX6_in_20 hl (by decide) rfl (fun ls hl => ?_)
      obtain ⟨n_11, h⟩ := h
      exact kX6_in_22 l dC dI ad ci A ns hAD st ln sv kv cu  hcu hns x1 x2 x3  post C0  n_11 (0 : Int32) (0 : Int32) _ _ _ h hP hS (lv_sub hl [2, 3, 4, 5, 1, 0] rfl)
    · have h := h.2 c_3
      refine lv_ldc2 (v := (-2000000001 : Int64)) hx hb hown (hts _ wX6_in_k41) dX6_in_12 ?_
      exact W.lret (v := (-2000000001 : Int64)) hx hb hr (fun t ht hW => ⟨⟨(-2000000001 : Int64), (), rfl, h, ⟨ad, ns, hns, rfl, hAD, hcu, x_ht ht hP⟩⟩, hS.F ht⟩) hS.2.2 dX6_in_15
abbrev rmX6_now : Room := { frames := 0, cells := 0, slots := 0, locals := 0 }
theorem wX6_now_c4 : ∀ w ∈ u_ws RX4 TX4 8, w ∈ wsX6_now := by decide +kernel
theorem wX6_now_f108 : Cond.fieldLink RX6 108 "DueWheels$State" "time" "J" ∈ wsX6_now := by decide +kernel
theorem wX6_now_c6 : ∀ w ∈ u_ws RX6 TX6 4, w ∈ wsX6_now := by decide +kernel
theorem wX6_now_f33 : Cond.fieldLink RX6 33 "DueWheels" "state" "LDueWheels$State;" ∈ wsX6_now := by decide +kernel
def PX6_now  (st : Nat → StV) (cu : Nat)  (post : Int64 → Prop) : Prop :=
  post (s_tm (st cu))
set_option maxHeartbeats 4000000 in
set_option maxRecDepth 100000 in
theorem qX6_now (l : Launch) (dC : Nat → ClassId) (dI : Nat → Nat → Nat) (ci : Nat → ClassId) (A : Nat → Prop) (a0 : Nat) (st : Nat → StV) (ln : Nat → LnV) (sv : SvV) (kv : KvV) (cu : Nat)  (post : Int64 → Prop) (h : PX6_now st cu post) : Met l yX6_now wsX6_now rmX6_now (va_Pc [.ref a0] (xPre (dC, dI) ci A (xB (dC, dI) ci A a0 st ln sv kv cu))) (va_Ql (fun r9 (u : Unit) => post r9 ) (fun u t => xB (dC, dI) ci A a0 st ln sv kv cu t.heap) A) 0 0 A := by
  refine Met.ofW (cc := cX6_now) (maxL := 1) (ret := (some .long)) (by decide) rfl ?_
  intro p e s m args below meth c s₁ B hml hv
  obtain ⟨eargs, hP, hK, hN, hA⟩ := hv
  obtain ⟨ad, ns, hns, h0, hAD, hcu, hP⟩ := hP
  subst h0
  have C0 : xC p s m args meth c cX6_now 1 (some .long) RX6 wsX6_now (dC, dI) (xT ci) := ⟨B.exec, B.bytes, hml, B.returns, B.notSynchronized, findClass_of_methodNamed B.named, atoms_spec (ws := wsX6_now) B.pre, hK⟩
  obtain ⟨hx, hb, -, hr, hlocks, hown, hts, -⟩ := id C0
  have hS : va_S A s.heap s.heap [] := va_S.rf
  have hl := lv_entry ([.ref (ad 0)]) (n := 1) (Nat.le_of_ble_eq_true rfl)
  have ef : entryFrame m args 1 = entryFrame m ([.ref (ad 0)] : List Value).toArray 1 := by rw [eargs]
  rw [ef, lg_entry_eq]
  generalize (lg_sl ([.ref (ad 0)]) ++ List.replicate (1 - (lg_sl ([.ref (ad 0)])).length) Slot.unset).toArray = ls at hl ⊢
  have hl : lv_has ls 1 [(0, .ref (ad 0))] := hl
  have hP : va_P (dC, dI) vwCl (xw (xn ns) ad (xc ad ci st ln sv kv cu)) s.heap := hP
  unfold PX6_now at h
  refine lv_aload_n hx hb dX6_now_0 rfl (lv_at hl 0 rfl) ?_
  refine xr_get (D := (dC, dI)) (C := RX6) (T := TX6) (N := 4) (v := .ref (ad (xaS cu))) hx hb hts wX6_now_c6 hown hK hP 0 (xq_c (by decide)) xe_X rfl 3 (by decide) wX6_now_f33 rfl rfl dX6_now_1 ?_
  refine xr_get (D := (dC, dI)) (C := RX4) (T := TX4) (N := 8) (v := .long (s_tm (st cu))) hx hb hts wX6_now_c4 hown hK hP (xaS cu) (xq_S hcu) (xe_S rfl) rfl 0 (by decide) wX6_now_f108 rfl rfl dX6_now_4 ?_
  exact W.lret (v := (s_tm (st cu))) hx hb hr (fun t ht hW => ⟨⟨(s_tm (st cu)), (), rfl, h, ⟨ad, ns, hns, rfl, hAD, hcu, x_ht ht hP⟩⟩, hS.F ht⟩) hS.2.2 dX6_now_7
abbrev rmX6_undo : Room := { frames := 1, cells := 0, slots := 0, locals := 22 }
theorem wX6_undo_c1 : ∀ w ∈ u_ws RX1 TX1 3, w ∈ wsX6_undo := by decide +kernel
theorem wX6_undo_f156 : Cond.fieldLink RX6 156 "DueWheels$Kept" "size" "I" ∈ wsX6_undo := by decide +kernel
theorem wX6_undo_c6 : ∀ w ∈ u_ws RX6 TX6 4, w ∈ wsX6_undo := by decide +kernel
theorem wX6_undo_f10 : Cond.fieldLink RX6 10 "DueWheels" "kept" "LDueWheels$Kept;" ∈ wsX6_undo := by decide +kernel
theorem wX6_undo_f33 : Cond.fieldLink RX6 33 "DueWheels" "state" "LDueWheels$State;" ∈ wsX6_undo := by decide +kernel
theorem wX6_undo_k89 : Cond.constantLong RX6 89 (-2000000002) ∈ wsX6_undo := by decide +kernel
def PX6_undo  (kv : KvV) (cu : Nat)  (post : Int64 → KvV → Nat → Prop) : Prop :=
  (((k_sz kv) = 0 → post (-2000000002 : Int64) kv cu) ∧ (¬ (k_sz kv) = 0 → (PX1_takeBack cu kv (fun (r_2 : Nat) (kv_3 : KvV) => (r_2 < k_ns kv_3 ∧ ∀ cu_5 : Nat, cu_5 = r_2 → post ((k_sz kv_3).toInt64) kv_3 cu_5)))))
set_option maxHeartbeats 4000000 in
set_option maxRecDepth 100000 in
theorem qX6_undo (l : Launch) (dC : Nat → ClassId) (dI : Nat → Nat → Nat) (ci : Nat → ClassId) (A : Nat → Prop) (a0 : Nat) (st : Nat → StV) (ln : Nat → LnV) (sv : SvV) (kv : KvV) (cu : Nat)  (post : Int64 → KvV → Nat → Prop) (h : PX6_undo kv cu post) : Met l yX6_undo wsX6_undo rmX6_undo (va_Pc [.ref a0] (xPre (dC, dI) ci A (xB (dC, dI) ci A a0 st ln sv kv cu))) (va_Ql (fun r9 (u : KvV × Nat) => post r9 (u.1) (u.2)) (fun u t => xB (dC, dI) ci A a0 st ln sv (u.1) (u.2) t.heap) A) 0 0 A := by
  refine Met.ofW (cc := cX6_undo) (maxL := 1) (ret := (some .long)) (by decide) rfl ?_
  intro p e s m args below meth c s₁ B hml hv
  obtain ⟨eargs, hP, hK, hN, hA⟩ := hv
  obtain ⟨ad, ns, hns, h0, hAD, hcu, hP⟩ := hP
  subst h0
  have C0 : xC p s m args meth c cX6_undo 1 (some .long) RX6 wsX6_undo (dC, dI) (xT ci) := ⟨B.exec, B.bytes, hml, B.returns, B.notSynchronized, findClass_of_methodNamed B.named, atoms_spec (ws := wsX6_undo) B.pre, hK⟩
  obtain ⟨hx, hb, -, hr, hlocks, hown, hts, -⟩ := id C0
  have hS : va_S A s.heap s.heap [] := va_S.rf
  have hl := lv_entry ([.ref (ad 0)]) (n := 1) (Nat.le_of_ble_eq_true rfl)
  have ef : entryFrame m args 1 = entryFrame m ([.ref (ad 0)] : List Value).toArray 1 := by rw [eargs]
  rw [ef, lg_entry_eq]
  generalize (lg_sl ([.ref (ad 0)]) ++ List.replicate (1 - (lg_sl ([.ref (ad 0)])).length) Slot.unset).toArray = ls at hl ⊢
  have hl : lv_has ls 1 [(0, .ref (ad 0))] := hl
  have hP : va_P (dC, dI) vwCl (xw (xn ns) ad (xc ad ci st ln sv kv cu)) s.heap := hP
  unfold PX6_undo at h
  refine lv_aload_n hx hb dX6_undo_0 rfl (lv_at hl 0 rfl) ?_
  refine xr_get (D := (dC, dI)) (C := RX6) (T := TX6) (N := 4) (v := .ref (ad 1)) hx hb hts wX6_undo_c6 hown hK hP 0 (xq_c (by decide)) xe_X rfl 0 (by decide) wX6_undo_f10 rfl rfl dX6_undo_1 ?_
  refine xr_get (D := (dC, dI)) (C := RX1) (T := TX1) (N := 3) (v := .int (k_sz kv)) hx hb hts wX6_undo_c1 hown hK hP 1 (xq_c (by decide)) xe_K rfl 2 (by decide) wX6_undo_f156 rfl rfl dX6_undo_4 ?_
  refine lv_if_ne (tgt := 14) hx hb dX6_undo_7 (by decide) (fun c_1 => ?_) (fun c_1 => ?_)
  · have h := h.2 c_1
    refine lv_aload_n hx hb dX6_undo_14 rfl (lv_at hl 0 rfl) ?_
    refine lv_aload_n hx hb dX6_undo_15 rfl (lv_at hl 0 rfl) ?_
    refine xr_get (D := (dC, dI)) (C := RX6) (T := TX6) (N := 4) (v := .ref (ad 1)) hx hb hts wX6_undo_c6 hown hK hP 0 (xq_c (by decide)) xe_X rfl 0 (by decide) wX6_undo_f10 rfl rfl dX6_undo_16 ?_
    refine lv_aload_n hx hb dX6_undo_19 rfl (lv_at hl 0 rfl) ?_
    refine xr_get (D := (dC, dI)) (C := RX6) (T := TX6) (N := 4) (v := .ref (ad (xaS cu))) hx hb hts wX6_undo_c6 hown hK hP 0 (xq_c (by decide)) xe_X rfl 3 (by decide) wX6_undo_f33 rfl rfl dX6_undo_20 ?_
    refine va_callr (va_runV (As := [.ref (ad (xaS cu))]) (rest := [.ref (ad 0)]) ⟨hx, hb, C0.2.2.1, hown, hts⟩ (qX1_takeBack l dC dI ad ci A ns hAD st ln sv kv cu cu hcu hns  _ h) (cwV 1 hts gX6_undo_X1_takeBack rfl rfl rfl (by decide +kernel) ⟨Nat.le_of_ble_eq_true rfl, Nat.le_of_ble_eq_true rfl⟩) ⟨xr_blind, xr_recv (r := (RX1, TX1, 3)) hK hP 1 (xq_c (by decide)) xe_K rfl, xr_pre hP hK⟩ rfl rfl hl.1 rfl (lv_room (Nat.le_of_ble_eq_true rfl)) dX6_undo_23 ⟨Nat.le_of_ble_eq_true rfl, Nat.le_of_ble_eq_true rfl⟩) hS (fun _ _ h => h) (fun _ h => h) (fun u9 ra9 t9 H locs ht hvm h hB _ _ hS => ?_)
    refine W.cs (cells' := 0) (slots' := 0) rfl rfl ?_
    obtain ⟨r_2, kv_3⟩ := u9
    obtain ⟨era, hns, hB⟩ := hB
    subst era
    have hP := x_th ht hB
    have hP : va_P (dC, dI) vwCl (xw (xn ns) ad (xc ad ci st ln sv kv_3 cu)) H := hP
    obtain ⟨g_4, h⟩ := h
    have hns : k_ns kv_3 = ns := hns
    rw [hns] at g_4
    obtain ⟨cu_5, ecu_5⟩ : ∃ z : Nat, z = r_2 := ⟨_, rfl⟩
    have h := h cu_5 ecu_5
    have hcucu_5 : cu_5 < ns := by rw [ecu_5]; exact g_4
    refine xr_put (D := (dC, dI)) (C := RX6) (T := TX6) (N := 4) (ty := .object "DueWheels$State") (v := .ref (ad (xaS r_2))) (g := (xc ad ci st ln sv kv_3 cu_5)) hx hb hts wX6_undo_c6 tyX6 tyX6_ok nmX6 hown hK hP hAD hS 0 (xq_c (by decide)) xe_X rfl 3 (by decide) wX6_undo_f33 rfl rfl (by decide +kernel) rfl rfl (Nat.le_of_ble_eq_true rfl) dX6_undo_26 (by rw [ecu_5]; exact xg_cu) (fun H locs hP hS => ?_)
    refine lv_aload_n hx hb dX6_undo_29 rfl (lv_at hl 0 rfl) ?_
    refine xr_get (D := (dC, dI)) (C := RX6) (T := TX6) (N := 4) (v := .ref (ad 1)) hx hb hts wX6_undo_c6 hown hK hP 0 (xq_c (by decide)) xe_X rfl 0 (by decide) wX6_undo_f10 rfl rfl dX6_undo_30 ?_
    refine xr_get (D := (dC, dI)) (C := RX1) (T := TX1) (N := 3) (v := .int (k_sz kv_3)) hx hb hts wX6_undo_c1 hown hK hP 1 (xq_c (by decide)) xe_K rfl 2 (by decide) wX6_undo_f156 rfl rfl dX6_undo_33 ?_
    refine lv_i2l hx hb dX6_undo_36 rfl ?_
    exact W.lret (v := ((k_sz kv_3).toInt64)) hx hb hr (fun t ht hW => ⟨⟨((k_sz kv_3).toInt64), (kv_3, cu_5), rfl, h, ⟨ad, ns, hns, rfl, hAD, hcucu_5, x_ht ht hP⟩⟩, hS.F ht⟩) hS.2.2 dX6_undo_37
  · have h := h.1 c_1
    refine lv_ldc2 (v := (-2000000002 : Int64)) hx hb hown (hts _ wX6_undo_k89) dX6_undo_10 ?_
    exact W.lret (v := (-2000000002 : Int64)) hx hb hr (fun t ht hW => ⟨⟨(-2000000002 : Int64), (kv, cu), rfl, h, ⟨ad, ns, hns, rfl, hAD, hcu, x_ht ht hP⟩⟩, hS.F ht⟩) hS.2.2 dX6_undo_13
abbrev rmX6_count : Room := { frames := 1, cells := 0, slots := 0, locals := 24 }
theorem wX6_count_c6 : ∀ w ∈ u_ws RX6 TX6 4, w ∈ wsX6_count := by decide +kernel
theorem wX6_count_f33 : Cond.fieldLink RX6 33 "DueWheels" "state" "LDueWheels$State;" ∈ wsX6_count := by decide +kernel
theorem wX6_count_c4 : ∀ w ∈ u_ws RX4 TX4 8, w ∈ wsX6_count := by decide +kernel
theorem wX6_count_f118 : Cond.fieldLink RX6 118 "DueWheels$State" "rowSize" "I" ∈ wsX6_count := by decide +kernel
theorem wX6_count_f167 : Cond.fieldLink RX6 167 "DueWheels$State" "goings" "J" ∈ wsX6_count := by decide +kernel
theorem wX6_count_f170 : Cond.fieldLink RX6 170 "DueWheels$State" "moves" "J" ∈ wsX6_count := by decide +kernel
theorem wX6_count_c1 : ∀ w ∈ u_ws RX1 TX1 3, w ∈ wsX6_count := by decide +kernel
theorem wX6_count_f156 : Cond.fieldLink RX6 156 "DueWheels$Kept" "size" "I" ∈ wsX6_count := by decide +kernel
theorem wX6_count_f10 : Cond.fieldLink RX6 10 "DueWheels" "kept" "LDueWheels$Kept;" ∈ wsX6_count := by decide +kernel
theorem wX6_count_k41 : Cond.constantLong RX6 41 (-2000000001) ∈ wsX6_count := by decide +kernel
def PX6_count  (st : Nat → StV) (kv : KvV) (cu : Nat) (x1 : Int32) (post : Int64 → Prop) : Prop :=
  ((x1 = 0 → (PX4_duesWith (st cu) (0 : Int32) (fun (r_2 : Int64) => post r_2))) ∧ (¬ x1 = 0 → ((x1 = 1 → (PX4_duesWith (st cu) (2 : Int32) (fun (r_4 : Int64) => post r_4))) ∧ (¬ x1 = 1 → ((x1 = 2 → (PX4_duesWith (st cu) (6 : Int32) (fun (r_6 : Int64) => post r_6))) ∧ (¬ x1 = 2 → ((x1 = 3 → (PX4_duesWith (st cu) (7 : Int32) (fun (r_8 : Int64) => post r_8))) ∧ (¬ x1 = 3 → ((x1 = 4 → post ((s_rs (st cu)).toInt64)) ∧ (¬ x1 = 4 → ((x1 = 5 → post (s_go (st cu))) ∧ (¬ x1 = 5 → ((x1 = 6 → post (s_mv (st cu))) ∧ (¬ x1 = 6 → ((x1 = 7 → post ((k_sz kv).toInt64)) ∧ (¬ x1 = 7 → post (-2000000001 : Int64)))))))))))))))))
set_option maxHeartbeats 4000000 in
set_option maxRecDepth 100000 in
theorem qX6_count (l : Launch) (dC : Nat → ClassId) (dI : Nat → Nat → Nat) (ci : Nat → ClassId) (A : Nat → Prop) (a0 : Nat) (st : Nat → StV) (ln : Nat → LnV) (sv : SvV) (kv : KvV) (cu : Nat) (x1 : Int32) (post : Int64 → Prop) (h : PX6_count st kv cu x1 post) : Met l yX6_count wsX6_count rmX6_count (va_Pc [.ref a0, .int x1] (xPre (dC, dI) ci A (xB (dC, dI) ci A a0 st ln sv kv cu))) (va_Ql (fun r9 (u : Unit) => post r9 ) (fun u t => xB (dC, dI) ci A a0 st ln sv kv cu t.heap) A) 0 0 A := by
  refine Met.ofW (cc := cX6_count) (maxL := 2) (ret := (some .long)) (by decide) rfl ?_
  intro p e s m args below meth c s₁ B hml hv
  obtain ⟨eargs, hP, hK, hN, hA⟩ := hv
  obtain ⟨ad, ns, hns, h0, hAD, hcu, hP⟩ := hP
  subst h0
  have C0 : xC p s m args meth c cX6_count 2 (some .long) RX6 wsX6_count (dC, dI) (xT ci) := ⟨B.exec, B.bytes, hml, B.returns, B.notSynchronized, findClass_of_methodNamed B.named, atoms_spec (ws := wsX6_count) B.pre, hK⟩
  obtain ⟨hx, hb, -, hr, hlocks, hown, hts, -⟩ := id C0
  have hS : va_S A s.heap s.heap [] := va_S.rf
  have hl := lv_entry ([.ref (ad 0), .int x1]) (n := 2) (Nat.le_of_ble_eq_true rfl)
  have ef : entryFrame m args 2 = entryFrame m ([.ref (ad 0), .int x1] : List Value).toArray 2 := by rw [eargs]
  rw [ef, lg_entry_eq]
  generalize (lg_sl ([.ref (ad 0), .int x1]) ++ List.replicate (2 - (lg_sl ([.ref (ad 0), .int x1])).length) Slot.unset).toArray = ls at hl ⊢
  have hl : lv_has ls 2 [(0, .ref (ad 0)), (1, .int x1)] := hl
  have hP : va_P (dC, dI) vwCl (xw (xn ns) ad (xc ad ci st ln sv kv cu)) s.heap := hP
  unfold PX6_count at h
  refine lv_iload_n hx hb dX6_count_0 rfl (lv_at hl 1 rfl) ?_
  by_cases c_1 : x1 = 0
  · have h := h.1 c_1
    refine lv_tableIn (tgt := 48) (off := 47) hx hb dX6_count_1 (by rw [c_1]; decide) (by rw [c_1]; decide) (by rw [c_1]; rfl) (by decide) ?_
    refine lv_aload_n hx hb dX6_count_48 rfl (lv_at hl 0 rfl) ?_
    refine xr_get (D := (dC, dI)) (C := RX6) (T := TX6) (N := 4) (v := .ref (ad (xaS cu))) hx hb hts wX6_count_c6 hown hK hP 0 (xq_c (by decide)) xe_X rfl 3 (by decide) wX6_count_f33 rfl rfl dX6_count_49 ?_
    refine lv_iconst (v := (0 : Int32)) hx hb dX6_count_52 (by decide) ?_
    have hP9 := x_e1 cu hP
    refine va_calll (va_runV (As := [.int (0 : Int32)]) (rest := []) ⟨hx, hb, C0.2.2.1, hown, hts⟩ (qX4_duesWith l dC dI ad ci A ns hAD st (st cu) ln sv kv cu cu hcu (0 : Int32) _ h) (cwV 1 hts gX6_count_X4_duesWith rfl rfl rfl (by decide +kernel) ⟨Nat.le_of_ble_eq_true rfl, Nat.le_of_ble_eq_true rfl⟩) ⟨xr_blind, xr_recv (r := (RX4, TX4, 8)) hK hP (xaS cu) (xq_S hcu) (xe_S rfl) rfl, xr_pre hP9 hK⟩ rfl rfl hl.1 rfl (lv_room (Nat.le_of_ble_eq_true rfl)) dX6_count_53 ⟨Nat.le_of_ble_eq_true rfl, Nat.le_of_ble_eq_true rfl⟩) hS (fun _ _ h => h) (fun _ h => h) (fun r_2 _ t9 H locs ht hvm h hB _ _ hS => ?_)
    refine W.cs (cells' := 0) (slots' := 0) rfl rfl ?_
    have hP := x_th ht hB
    have hP : va_P (dC, dI) vwCl (xw (xn ns) ad (xc ad ci st ln sv kv cu)) H := by simp only [x_eta] at hP; exact hP
    exact W.lret (v := r_2) hx hb hr (fun t ht hW => ⟨⟨r_2, (), rfl, h, ⟨ad, ns, hns, rfl, hAD, hcu, x_ht ht hP⟩⟩, hS.F ht⟩) hS.2.2 dX6_count_56
  have h := h.2 c_1
  by_cases c_3 : x1 = 1
  · have h := h.1 c_3
    refine lv_tableIn (tgt := 57) (off := 56) hx hb dX6_count_1 (by rw [c_3]; decide) (by rw [c_3]; decide) (by rw [c_3]; rfl) (by decide) ?_
    refine lv_aload_n hx hb dX6_count_57 rfl (lv_at hl 0 rfl) ?_
    refine xr_get (D := (dC, dI)) (C := RX6) (T := TX6) (N := 4) (v := .ref (ad (xaS cu))) hx hb hts wX6_count_c6 hown hK hP 0 (xq_c (by decide)) xe_X rfl 3 (by decide) wX6_count_f33 rfl rfl dX6_count_58 ?_
    refine lv_iconst (v := (2 : Int32)) hx hb dX6_count_61 (by decide) ?_
    have hP9 := x_e1 cu hP
    refine va_calll (va_runV (As := [.int (2 : Int32)]) (rest := []) ⟨hx, hb, C0.2.2.1, hown, hts⟩ (qX4_duesWith l dC dI ad ci A ns hAD st (st cu) ln sv kv cu cu hcu (2 : Int32) _ h) (cwV 1 hts gX6_count_X4_duesWith rfl rfl rfl (by decide +kernel) ⟨Nat.le_of_ble_eq_true rfl, Nat.le_of_ble_eq_true rfl⟩) ⟨xr_blind, xr_recv (r := (RX4, TX4, 8)) hK hP (xaS cu) (xq_S hcu) (xe_S rfl) rfl, xr_pre hP9 hK⟩ rfl rfl hl.1 rfl (lv_room (Nat.le_of_ble_eq_true rfl)) dX6_count_62 ⟨Nat.le_of_ble_eq_true rfl, Nat.le_of_ble_eq_true rfl⟩) hS (fun _ _ h => h) (fun _ h => h) (fun r_4 _ t9 H locs ht hvm h hB _ _ hS => ?_)
    refine W.cs (cells' := 0) (slots' := 0) rfl rfl ?_
    have hP := x_th ht hB
    have hP : va_P (dC, dI) vwCl (xw (xn ns) ad (xc ad ci st ln sv kv cu)) H := by simp only [x_eta] at hP; exact hP
    exact W.lret (v := r_4) hx hb hr (fun t ht hW => ⟨⟨r_4, (), rfl, h, ⟨ad, ns, hns, rfl, hAD, hcu, x_ht ht hP⟩⟩, hS.F ht⟩) hS.2.2 dX6_count_65
  have h := h.2 c_3
  by_cases c_5 : x1 = 2
  · have h := h.1 c_5
    refine lv_tableIn (tgt := 66) (off := 65) hx hb dX6_count_1 (by rw [c_5]; decide) (by rw [c_5]; decide) (by rw [c_5]; rfl) (by decide) ?_
    refine lv_aload_n hx hb dX6_count_66 rfl (lv_at hl 0 rfl) ?_
    refine xr_get (D := (dC, dI)) (C := RX6) (T := TX6) (N := 4) (v := .ref (ad (xaS cu))) hx hb hts wX6_count_c6 hown hK hP 0 (xq_c (by decide)) xe_X rfl 3 (by decide) wX6_count_f33 rfl rfl dX6_count_67 ?_
    refine lv_bipush (v := (6 : Int32)) hx hb dX6_count_70 (by decide) ?_
    have hP9 := x_e1 cu hP
    refine va_calll (va_runV (As := [.int (6 : Int32)]) (rest := []) ⟨hx, hb, C0.2.2.1, hown, hts⟩ (qX4_duesWith l dC dI ad ci A ns hAD st (st cu) ln sv kv cu cu hcu (6 : Int32) _ h) (cwV 1 hts gX6_count_X4_duesWith rfl rfl rfl (by decide +kernel) ⟨Nat.le_of_ble_eq_true rfl, Nat.le_of_ble_eq_true rfl⟩) ⟨xr_blind, xr_recv (r := (RX4, TX4, 8)) hK hP (xaS cu) (xq_S hcu) (xe_S rfl) rfl, xr_pre hP9 hK⟩ rfl rfl hl.1 rfl (lv_room (Nat.le_of_ble_eq_true rfl)) dX6_count_72 ⟨Nat.le_of_ble_eq_true rfl, Nat.le_of_ble_eq_true rfl⟩) hS (fun _ _ h => h) (fun _ h => h) (fun r_6 _ t9 H locs ht hvm h hB _ _ hS => ?_)
    refine W.cs (cells' := 0) (slots' := 0) rfl rfl ?_
    have hP := x_th ht hB
    have hP : va_P (dC, dI) vwCl (xw (xn ns) ad (xc ad ci st ln sv kv cu)) H := by simp only [x_eta] at hP; exact hP
    exact W.lret (v := r_6) hx hb hr (fun t ht hW => ⟨⟨r_6, (), rfl, h, ⟨ad, ns, hns, rfl, hAD, hcu, x_ht ht hP⟩⟩, hS.F ht⟩) hS.2.2 dX6_count_75
  have h := h.2 c_5
  by_cases c_7 : x1 = 3
  · have h := h.1 c_7
    refine lv_tableIn (tgt := 76) (off := 75) hx hb dX6_count_1 (by rw [c_7]; decide) (by rw [c_7]; decide) (by rw [c_7]; rfl) (by decide) ?_
    refine lv_aload_n hx hb dX6_count_76 rfl (lv_at hl 0 rfl) ?_
    refine xr_get (D := (dC, dI)) (C := RX6) (T := TX6) (N := 4) (v := .ref (ad (xaS cu))) hx hb hts wX6_count_c6 hown hK hP 0 (xq_c (by decide)) xe_X rfl 3 (by decide) wX6_count_f33 rfl rfl dX6_count_77 ?_
    refine lv_bipush (v := (7 : Int32)) hx hb dX6_count_80 (by decide) ?_
    have hP9 := x_e1 cu hP
    refine va_calll (va_runV (As := [.int (7 : Int32)]) (rest := []) ⟨hx, hb, C0.2.2.1, hown, hts⟩ (qX4_duesWith l dC dI ad ci A ns hAD st (st cu) ln sv kv cu cu hcu (7 : Int32) _ h) (cwV 1 hts gX6_count_X4_duesWith rfl rfl rfl (by decide +kernel) ⟨Nat.le_of_ble_eq_true rfl, Nat.le_of_ble_eq_true rfl⟩) ⟨xr_blind, xr_recv (r := (RX4, TX4, 8)) hK hP (xaS cu) (xq_S hcu) (xe_S rfl) rfl, xr_pre hP9 hK⟩ rfl rfl hl.1 rfl (lv_room (Nat.le_of_ble_eq_true rfl)) dX6_count_82 ⟨Nat.le_of_ble_eq_true rfl, Nat.le_of_ble_eq_true rfl⟩) hS (fun _ _ h => h) (fun _ h => h) (fun r_8 _ t9 H locs ht hvm h hB _ _ hS => ?_)
    refine W.cs (cells' := 0) (slots' := 0) rfl rfl ?_
    have hP := x_th ht hB
    have hP : va_P (dC, dI) vwCl (xw (xn ns) ad (xc ad ci st ln sv kv cu)) H := by simp only [x_eta] at hP; exact hP
    exact W.lret (v := r_8) hx hb hr (fun t ht hW => ⟨⟨r_8, (), rfl, h, ⟨ad, ns, hns, rfl, hAD, hcu, x_ht ht hP⟩⟩, hS.F ht⟩) hS.2.2 dX6_count_85
  have h := h.2 c_7
  by_cases c_9 : x1 = 4
  · have h := h.1 c_9
    refine lv_tableIn (tgt := 86) (off := 85) hx hb dX6_count_1 (by rw [c_9]; decide) (by rw [c_9]; decide) (by rw [c_9]; rfl) (by decide) ?_
    refine lv_aload_n hx hb dX6_count_86 rfl (lv_at hl 0 rfl) ?_
    refine xr_get (D := (dC, dI)) (C := RX6) (T := TX6) (N := 4) (v := .ref (ad (xaS cu))) hx hb hts wX6_count_c6 hown hK hP 0 (xq_c (by decide)) xe_X rfl 3 (by decide) wX6_count_f33 rfl rfl dX6_count_87 ?_
    refine xr_get (D := (dC, dI)) (C := RX4) (T := TX4) (N := 8) (v := .int (s_rs (st cu))) hx hb hts wX6_count_c4 hown hK hP (xaS cu) (xq_S hcu) (xe_S rfl) rfl 5 (by decide) wX6_count_f118 rfl rfl dX6_count_90 ?_
    refine lv_i2l hx hb dX6_count_93 rfl ?_
    exact W.lret (v := ((s_rs (st cu)).toInt64)) hx hb hr (fun t ht hW => ⟨⟨((s_rs (st cu)).toInt64), (), rfl, h, ⟨ad, ns, hns, rfl, hAD, hcu, x_ht ht hP⟩⟩, hS.F ht⟩) hS.2.2 dX6_count_94
  have h := h.2 c_9
  by_cases c_10 : x1 = 5
  · have h := h.1 c_10
    refine lv_tableIn (tgt := 95) (off := 94) hx hb dX6_count_1 (by rw [c_10]; decide) (by rw [c_10]; decide) (by rw [c_10]; rfl) (by decide) ?_
    refine lv_aload_n hx hb dX6_count_95 rfl (lv_at hl 0 rfl) ?_
    refine xr_get (D := (dC, dI)) (C := RX6) (T := TX6) (N := 4) (v := .ref (ad (xaS cu))) hx hb hts wX6_count_c6 hown hK hP 0 (xq_c (by decide)) xe_X rfl 3 (by decide) wX6_count_f33 rfl rfl dX6_count_96 ?_
    refine xr_get (D := (dC, dI)) (C := RX4) (T := TX4) (N := 8) (v := .long (s_go (st cu))) hx hb hts wX6_count_c4 hown hK hP (xaS cu) (xq_S hcu) (xe_S rfl) rfl 2 (by decide) wX6_count_f167 rfl rfl dX6_count_99 ?_
    exact W.lret (v := (s_go (st cu))) hx hb hr (fun t ht hW => ⟨⟨(s_go (st cu)), (), rfl, h, ⟨ad, ns, hns, rfl, hAD, hcu, x_ht ht hP⟩⟩, hS.F ht⟩) hS.2.2 dX6_count_102
  have h := h.2 c_10
  by_cases c_11 : x1 = 6
  · have h := h.1 c_11
    refine lv_tableIn (tgt := 103) (off := 102) hx hb dX6_count_1 (by rw [c_11]; decide) (by rw [c_11]; decide) (by rw [c_11]; rfl) (by decide) ?_
    refine lv_aload_n hx hb dX6_count_103 rfl (lv_at hl 0 rfl) ?_
    refine xr_get (D := (dC, dI)) (C := RX6) (T := TX6) (N := 4) (v := .ref (ad (xaS cu))) hx hb hts wX6_count_c6 hown hK hP 0 (xq_c (by decide)) xe_X rfl 3 (by decide) wX6_count_f33 rfl rfl dX6_count_104 ?_
    refine xr_get (D := (dC, dI)) (C := RX4) (T := TX4) (N := 8) (v := .long (s_mv (st cu))) hx hb hts wX6_count_c4 hown hK hP (xaS cu) (xq_S hcu) (xe_S rfl) rfl 3 (by decide) wX6_count_f170 rfl rfl dX6_count_107 ?_
    exact W.lret (v := (s_mv (st cu))) hx hb hr (fun t ht hW => ⟨⟨(s_mv (st cu)), (), rfl, h, ⟨ad, ns, hns, rfl, hAD, hcu, x_ht ht hP⟩⟩, hS.F ht⟩) hS.2.2 dX6_count_110
  have h := h.2 c_11
  by_cases c_12 : x1 = 7
  · have h := h.1 c_12
    refine lv_tableIn (tgt := 111) (off := 110) hx hb dX6_count_1 (by rw [c_12]; decide) (by rw [c_12]; decide) (by rw [c_12]; rfl) (by decide) ?_
    refine lv_aload_n hx hb dX6_count_111 rfl (lv_at hl 0 rfl) ?_
    refine xr_get (D := (dC, dI)) (C := RX6) (T := TX6) (N := 4) (v := .ref (ad 1)) hx hb hts wX6_count_c6 hown hK hP 0 (xq_c (by decide)) xe_X rfl 0 (by decide) wX6_count_f10 rfl rfl dX6_count_112 ?_
    refine xr_get (D := (dC, dI)) (C := RX1) (T := TX1) (N := 3) (v := .int (k_sz kv)) hx hb hts wX6_count_c1 hown hK hP 1 (xq_c (by decide)) xe_K rfl 2 (by decide) wX6_count_f156 rfl rfl dX6_count_115 ?_
    refine lv_i2l hx hb dX6_count_118 rfl ?_
    exact W.lret (v := ((k_sz kv).toInt64)) hx hb hr (fun t ht hW => ⟨⟨((k_sz kv).toInt64), (), rfl, h, ⟨ad, ns, hns, rfl, hAD, hcu, x_ht ht hP⟩⟩, hS.F ht⟩) hS.2.2 dX6_count_119
  have h := h.2 c_12
  refine lv_tableOut (tgt := 120) hx hb dX6_count_1 (x_sw8 c_1 c_3 c_5 c_7 c_9 c_10 c_11 c_12) (by decide) ?_
  refine lv_ldc2 (v := (-2000000001 : Int64)) hx hb hown (hts _ wX6_count_k41) dX6_count_120 ?_
  exact W.lret (v := (-2000000001 : Int64)) hx hb hr (fun t ht hW => ⟨⟨(-2000000001 : Int64), (), rfl, h, ⟨ad, ns, hns, rfl, hAD, hcu, x_ht ht hP⟩⟩, hS.F ht⟩) hS.2.2 dX6_count_123
