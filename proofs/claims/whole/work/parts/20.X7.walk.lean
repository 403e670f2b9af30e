abbrev rmX7_isIn : Room := { frames := 0, cells := 0, slots := 0, locals := 0 }
def PX7_isIn   (x0 : Int64) (x2 : Int64) (x4 : Int64) (post : Int32 → Prop) : Prop :=
  ((x0 < x2 → post (0 : Int32)) ∧ (¬ x0 < x2 → ((x4 < x0 → post (0 : Int32)) ∧ (¬ x4 < x0 → post (1 : Int32)))))
set_option maxHeartbeats 4000000 in
set_option maxRecDepth 100000 in
theorem qX7_isIn (l : Launch) (dC : Nat → ClassId) (dI : Nat → Nat → Nat) (nn : Nat) (ad : Nat → Nat) (ff : Nat → va_E) (tys : List (ClassId × FieldType)) (A : Nat → Prop)  (x0 : Int64) (x2 : Int64) (x4 : Int64) (post : Int32 → Prop) (h : PX7_isIn x0 x2 x4 post) : Met l yX7_isIn wsX7_isIn rmX7_isIn (va_Pc [.long x0, .long x2, .long x4] (fun U => va_P (dC, dI) vwCl (xw nn ad ff) U.heap ∧ va_K (dC, dI) vwCl tys U)) (va_Qi (fun r9 (u : Unit) => post r9 ) (fun u t => va_P (dC, dI) vwCl (xw nn ad ff) t.heap) A) 0 0 A := by
  refine Met.ofW (cc := cX7_isIn) (maxL := 6) (ret := (some .boolean)) (by decide) rfl ?_
  intro p e s m args below meth c s₁ B hml hv
  obtain ⟨eargs, hP, hK⟩ := hv
  have C0 : xC p s m args meth c cX7_isIn 6 (some .boolean) RX7 wsX7_isIn (dC, dI) tys := ⟨B.exec, B.bytes, hml, B.returns, B.notSynchronized, findClass_of_methodNamed B.named, atoms_spec (ws := wsX7_isIn) B.pre, hK⟩
  obtain ⟨hx, hb, -, hr, hlocks, hown, hts, -⟩ := id C0
  have hS : va_S A s.heap s.heap [] := va_S.rf
  have hl := lv_entry ([.long x0, .long x2, .long x4]) (n := 6) (Nat.le_of_ble_eq_true rfl)
  have ef : entryFrame m args 6 = entryFrame m ([.long x0, .long x2, .long x4] : List Value).toArray 6 := by rw [eargs]
  rw [ef, lg_entry_eq]
  generalize (lg_sl ([.long x0, .long x2, .long x4]) ++ List.replicate (6 - (lg_sl ([.long x0, .long x2, .long x4])).length) Slot.unset).toArray = ls at hl ⊢
  have hl : lv_has ls 6 [(0, .long x0), (2, .long x2), (4, .long x4)] := hl
  have hP : va_P (dC, dI) vwCl (xw nn ad ff) s.heap := hP
  unfold PX7_isIn at h
  refine lv_lload_n hx hb dX7_isIn_0 rfl (lv_at hl 0 rfl) ?_
  refine lv_lload_n hx hb dX7_isIn_1 rfl (lv_at hl 1 rfl) ?_
  refine xr_if_lcmp_lt (tgt := 17) hx hb dX7_isIn_2 dX7_isIn_3 (by decide) (fun c_1 => ?_) (fun c_1 => ?_)
  · have h := h.1 c_1
    refine lv_iconst (v := (0 : Int32)) hx hb dX7_isIn_17 (by decide) ?_
    exact W.zret (v := (0 : Int32)) (ty := .boolean) hx hb hr (by decide) (fun t ht hW => ⟨⟨(0 : Int32), (), rfl, h, x_ht ht hP⟩, hS.F ht⟩) hS.2.2 dX7_isIn_18
  · have h := h.2 c_1
    refine lv_lload_n hx hb dX7_isIn_6 rfl (lv_at hl 0 rfl) ?_
    refine lv_lload hx hb dX7_isIn_7 (lv_at hl 2 rfl) ?_
    refine xr_if_lcmp_gt (tgt := 17) hx hb dX7_isIn_9 dX7_isIn_10 (by decide) (fun c_2 => ?_) (fun c_2 => ?_)
    · have h := h.1 c_2
      refine lv_iconst (v := (0 : Int32)) hx hb dX7_isIn_17 (by decide) ?_
      exact W.zret (v := (0 : Int32)) (ty := .boolean) hx hb hr (by decide) (fun t ht hW => ⟨⟨(0 : Int32), (), rfl, h, x_ht ht hP⟩, hS.F ht⟩) hS.2.2 dX7_isIn_18
    · have h := h.2 c_2
      refine lv_iconst (v := (1 : Int32)) hx hb dX7_isIn_13 (by decide) ?_
      refine lv_goto (tgt := 18) hx hb dX7_isIn_14 (by decide) ?_
      exact W.zret (v := (1 : Int32)) (ty := .boolean) hx hb hr (by decide) (fun t ht hW => ⟨⟨(1 : Int32), (), rfl, h, x_ht ht hP⟩, hS.F ht⟩) hS.2.2 dX7_isIn_18
abbrev rmX7_get : Room := { frames := 0, cells := 0, slots := 0, locals := 0 }
theorem wX7_get_c7 : ∀ w ∈ u_ws RX7 TX7 9, w ∈ wsX7_get := by decide +kernel
theorem wX7_get_f7 : Cond.fieldLink RX7 7 "DueWheelsModel" "s" "[J" ∈ wsX7_get := by decide +kernel
def PX7_get  (r : MmV) (x1 : Int32) (x2 : Int32) (post : Int64 → Prop) : Prop :=
  (vp_in (((14 : Int32) * x1) + x2) 3705 ∧ post (m_s r ((((14 : Int32) * x1) + x2).toNatClampNeg)))
set_option maxHeartbeats 4000000 in
set_option maxRecDepth 100000 in
theorem qX7_get (l : Launch) (dC : Nat → ClassId) (dI : Nat → Nat → Nat) (ad : Nat → Nat) (ci : Nat → ClassId) (A : Nat → Prop) (hAD : xw_D 7 ad A) (r : MmV) (x1 : Int32) (x2 : Int32) (post : Int64 → Prop) (h : PX7_get r x1 x2 post) : Met l yX7_get wsX7_get rmX7_get (va_Pc [.ref (ad 0), .int x1, .int x2] (fun U => va_P (dC, dI) vwCl (xw 7 ad (mc ad ci r)) U.heap ∧ va_K (dC, dI) vwCl (xT ci) U)) (va_Ql (fun r9 (u : Unit) => post r9 ) (fun u t => va_P (dC, dI) vwCl (xw 7 ad (mc ad ci r)) t.heap) A) 0 0 A := by
  refine Met.ofW (cc := cX7_get) (maxL := 3) (ret := (some .long)) (by decide) rfl ?_
  intro p e s m args below meth c s₁ B hml hv
  obtain ⟨eargs, hP, hK⟩ := hv
  have C0 : xC p s m args meth c cX7_get 3 (some .long) RX7 wsX7_get (dC, dI) (xT ci) := ⟨B.exec, B.bytes, hml, B.returns, B.notSynchronized, findClass_of_methodNamed B.named, atoms_spec (ws := wsX7_get) B.pre, hK⟩
  obtain ⟨hx, hb, -, hr, hlocks, hown, hts, -⟩ := id C0
  have hS : va_S A s.heap s.heap [] := va_S.rf
  have hl := lv_entry ([.ref (ad 0), .int x1, .int x2]) (n := 3) (Nat.le_of_ble_eq_true rfl)
  have ef : entryFrame m args 3 = entryFrame m ([.ref (ad 0), .int x1, .int x2] : List Value).toArray 3 := by rw [eargs]
  rw [ef, lg_entry_eq]
  generalize (lg_sl ([.ref (ad 0), .int x1, .int x2]) ++ List.replicate (3 - (lg_sl ([.ref (ad 0), .int x1, .int x2])).length) Slot.unset).toArray = ls at hl ⊢
  have hl : lv_has ls 3 [(0, .ref (ad 0)), (1, .int x1), (2, .int x2)] := hl
  have hP : va_P (dC, dI) vwCl (xw 7 ad (mc ad ci r)) s.heap := hP
  unfold PX7_get at h
  refine lv_aload_n hx hb dX7_get_0 rfl (lv_at hl 0 rfl) ?_
  refine xr_get (D := (dC, dI)) (C := RX7) (T := TX7) (N := 9) (v := .ref (ad 1)) hx hb hts wX7_get_c7 hown hK hP 0 (by decide) me_M rfl 0 (by decide) wX7_get_f7 rfl rfl dX7_get_1 ?_
  refine lv_bipush (v := (14 : Int32)) hx hb dX7_get_4 (by decide) ?_
  refine lv_iload_n hx hb dX7_get_6 rfl (lv_at hl 1 rfl) ?_
  refine lv_imul hx hb dX7_get_7 ?_
  refine lv_iload_n hx hb dX7_get_8 rfl (lv_at hl 2 rfl) ?_
  refine lv_iadd hx hb dX7_get_9 ?_
  obtain ⟨g_1, h⟩ := h
  refine xr_lald (k := (((14 : Int32) * x1) + x2).toNatClampNeg) hx hb hK hP 1 1 (by decide) me_s rfl rfl g_1 dX7_get_10 ?_
  exact W.lret (v := (m_s r ((((14 : Int32) * x1) + x2).toNatClampNeg))) hx hb hr (fun t ht hW => ⟨⟨(m_s r ((((14 : Int32) * x1) + x2).toNatClampNeg)), (), rfl, h, x_ht ht hP⟩, hS.F ht⟩) hS.2.2 dX7_get_11
abbrev rmX7_put : Room := { frames := 0, cells := 0, slots := 0, locals := 0 }
theorem wX7_put_c7 : ∀ w ∈ u_ws RX7 TX7 9, w ∈ wsX7_put := by decide +kernel
theorem wX7_put_f7 : Cond.fieldLink RX7 7 "DueWheelsModel" "s" "[J" ∈ wsX7_put := by decide +kernel
def PX7_put  (r : MmV) (x1 : Int32) (x2 : Int32) (x3 : Int64) (post : MmV → Prop) : Prop :=
  (vp_in (((14 : Int32) * x1) + x2) 3705 ∧ (∀ r_2 : MmV, r_2 = m_ws r (vp_updL (m_s r) ((((14 : Int32) * x1) + x2).toNatClampNeg) x3) → post r_2))
set_option maxHeartbeats 4000000 in
set_option maxRecDepth 100000 in
theorem qX7_put (l : Launch) (dC : Nat → ClassId) (dI : Nat → Nat → Nat) (ad : Nat → Nat) (ci : Nat → ClassId) (A : Nat → Prop) (hAD : xw_D 7 ad A) (r : MmV) (x1 : Int32) (x2 : Int32) (x3 : Int64) (post : MmV → Prop) (h : PX7_put r x1 x2 x3 post) : Met l yX7_put wsX7_put rmX7_put (va_Pc [.ref (ad 0), .int x1, .int x2, .long x3] (fun U => va_P (dC, dI) vwCl (xw 7 ad (mc ad ci r)) U.heap ∧ va_K (dC, dI) vwCl (xT ci) U)) (va_Qv (fun u : MmV => post u) (fun u t => va_P (dC, dI) vwCl (xw 7 ad (mc ad ci u)) t.heap) A) 0 0 A := by
  refine Met.ofW (cc := cX7_put) (maxL := 5) (ret := none) (by decide) rfl ?_
  intro p e s m args below meth c s₁ B hml hv
  obtain ⟨eargs, hP, hK⟩ := hv
  have C0 : xC p s m args meth c cX7_put 5 none RX7 wsX7_put (dC, dI) (xT ci) := ⟨B.exec, B.bytes, hml, B.returns, B.notSynchronized, findClass_of_methodNamed B.named, atoms_spec (ws := wsX7_put) B.pre, hK⟩
  obtain ⟨hx, hb, -, hr, hlocks, hown, hts, -⟩ := id C0
  have hS : va_S A s.heap s.heap [] := va_S.rf
  have hl := lv_entry ([.ref (ad 0), .int x1, .int x2, .long x3]) (n := 5) (Nat.le_of_ble_eq_true rfl)
  have ef : entryFrame m args 5 = entryFrame m ([.ref (ad 0), .int x1, .int x2, .long x3] : List Value).toArray 5 := by rw [eargs]
  rw [ef, lg_entry_eq]
  generalize (lg_sl ([.ref (ad 0), .int x1, .int x2, .long x3]) ++ List.replicate (5 - (lg_sl ([.ref (ad 0), .int x1, .int x2, .long x3])).length) Slot.unset).toArray = ls at hl ⊢
  have hl : lv_has ls 5 [(0, .ref (ad 0)), (1, .int x1), (2, .int x2), (3, .long x3)] := hl
  have hP : va_P (dC, dI) vwCl (xw 7 ad (mc ad ci r)) s.heap := hP
  unfold PX7_put at h
  refine lv_aload_n hx hb dX7_put_0 rfl (lv_at hl 0 rfl) ?_
  refine xr_get (D := (dC, dI)) (C := RX7) (T := TX7) (N := 9) (v := .ref (ad 1)) hx hb hts wX7_put_c7 hown hK hP 0 (by decide) me_M rfl 0 (by decide) wX7_put_f7 rfl rfl dX7_put_1 ?_
  refine lv_bipush (v := (14 : Int32)) hx hb dX7_put_4 (by decide) ?_
  refine lv_iload_n hx hb dX7_put_6 rfl (lv_at hl 1 rfl) ?_
  refine lv_imul hx hb dX7_put_7 ?_
  refine lv_iload_n hx hb dX7_put_8 rfl (lv_at hl 2 rfl) ?_
  refine lv_iadd hx hb dX7_put_9 ?_
  refine lv_lload_n hx hb dX7_put_10 rfl (lv_at hl 3 rfl) ?_
  obtain ⟨g_1, h⟩ := h
  obtain ⟨r_2, er_2⟩ : ∃ z : MmV, z = m_ws r (vp_updL (m_s r) ((((14 : Int32) * x1) + x2).toNatClampNeg) x3) := ⟨_, rfl⟩
  have h := h r_2 er_2
  refine xr_last (k := (((14 : Int32) * x1) + x2).toNatClampNeg) (x := x3) (g := (mc ad ci r_2)) hx hb hK hP hAD hS 1 1 (by decide) me_s rfl rfl g_1 dX7_put_11 (by rw [er_2]; exact mg_s) (fun H locs hP hS => ?_)
  exact W.vret hx hb hr (fun t ht hW => ⟨⟨r_2, rfl, h, x_ht ht hP⟩, hS.F ht⟩) hS.2.2 dX7_put_12
abbrev rmX7_isDue : Room := { frames := 1, cells := 0, slots := 0, locals := 25 }
theorem wX7_isDue_k34 : Cond.constantLong RX7 34 (199) ∈ wsX7_isDue := by decide +kernel
def PX7_isDue  (r : MmV) (x1 : Int32) (post : Int32 → Prop) : Prop :=
  (PX7_isIn (x1.toInt64) (0 : Int64) (199 : Int64) (fun (r_1 : Int32) => ((r_1 = 0 → post (0 : Int32)) ∧ (¬ r_1 = 0 → (PX7_get r x1 (0 : Int32) (fun (r_3 : Int64) => ((r_3 = (1 : Int64) → post (1 : Int32)) ∧ (¬ r_3 = (1 : Int64) → post (0 : Int32)))))))))
set_option maxHeartbeats 4000000 in
set_option maxRecDepth 100000 in
theorem qX7_isDue (l : Launch) (dC : Nat → ClassId) (dI : Nat → Nat → Nat) (ad : Nat → Nat) (ci : Nat → ClassId) (A : Nat → Prop) (hAD : xw_D 7 ad A) (r : MmV) (x1 : Int32) (post : Int32 → Prop) (h : PX7_isDue r x1 post) : Met l yX7_isDue wsX7_isDue rmX7_isDue (va_Pc [.ref (ad 0), .int x1] (fun U => va_P (dC, dI) vwCl (xw 7 ad (mc ad ci r)) U.heap ∧ va_K (dC, dI) vwCl (xT ci) U)) (va_Qi (fun r9 (u : Unit) => post r9 ) (fun u t => va_P (dC, dI) vwCl (xw 7 ad (mc ad ci r)) t.heap) A) 0 0 A := by
  refine Met.ofW (cc := cX7_isDue) (maxL := 2) (ret := (some .boolean)) (by decide) rfl ?_
  intro p e s m args below meth c s₁ B hml hv
  obtain ⟨eargs, hP, hK⟩ := hv
  have C0 : xC p s m args meth c cX7_isDue 2 (some .boolean) RX7 wsX7_isDue (dC, dI) (xT ci) := ⟨B.exec, B.bytes, hml, B.returns, B.notSynchronized, findClass_of_methodNamed B.named, atoms_spec (ws := wsX7_isDue) B.pre, hK⟩
  obtain ⟨hx, hb, -, hr, hlocks, hown, hts, -⟩ := id C0
  have hS : va_S A s.heap s.heap [] := va_S.rf
  have hl := lv_entry ([.ref (ad 0), .int x1]) (n := 2) (Nat.le_of_ble_eq_true rfl)
  have ef : entryFrame m args 2 = entryFrame m ([.ref (ad 0), .int x1] : List Value).toArray 2 := by rw [eargs]
  rw [ef, lg_entry_eq]
  generalize (lg_sl ([.ref (ad 0), .int x1]) ++ List.replicate (2 - (lg_sl ([.ref (ad 0), .int x1])).length) Slot.unset).toArray = ls at hl ⊢
  have hl : lv_has ls 2 [(0, .ref (ad 0)), (1, .int x1)] := hl
  have hP : va_P (dC, dI) vwCl (xw 7 ad (mc ad ci r)) s.heap := hP
  unfold PX7_isDue at h
  refine lv_iload_n hx hb dX7_isDue_0 rfl (lv_at hl 1 rfl) ?_
  refine lv_i2l hx hb dX7_isDue_1 rfl ?_
  refine lv_lconst (v := (0 : Int64)) hx hb dX7_isDue_2 (by decide) ?_
  refine lv_ldc2 (v := (199 : Int64)) hx hb hown (hts _ wX7_isDue_k34) dX7_isDue_3 ?_
  refine va_calli (va_runS (As := [.long (x1.toInt64), .long (0 : Int64), .long (199 : Int64)]) (rest := []) ⟨hx, hb, C0.2.2.1, hown, hts⟩ (qX7_isIn l dC dI 7 ad (mc ad ci r) (xT ci) A (x1.toInt64) (0 : Int64) (199 : Int64) _ h) (va_cwS 3 hts gX7_isDue_X7_isIn rfl rfl rfl (by decide +kernel) ⟨Nat.le_of_ble_eq_true rfl, Nat.le_of_ble_eq_true rfl⟩) ⟨xr_blind, xr_pre hP hK⟩ rfl rfl hl.1 rfl (lv_room (Nat.le_of_ble_eq_true rfl)) dX7_isDue_6 ⟨Nat.le_of_ble_eq_true rfl, Nat.le_of_ble_eq_true rfl⟩) hS (fun _ _ h => h) (fun _ h => h) (fun r_1 _ t9 H locs ht hvm h hB _ _ hS => ?_)
  refine W.cs (cells' := 0) (slots' := 0) rfl rfl ?_
  have hP := x_th ht hB
  have hP : va_P (dC, dI) vwCl (xw 7 ad (mc ad ci r)) H := hP
  refine lv_if_eq (tgt := 27) hx hb dX7_isDue_9 (by decide) (fun c_2 => ?_) (fun c_2 => ?_)
  · have h := h.1 c_2
    refine lv_iconst (v := (0 : Int32)) hx hb dX7_isDue_27 (by decide) ?_
    exact W.zret (v := (0 : Int32)) (ty := .boolean) hx hb hr (by decide) (fun t ht hW => ⟨⟨(0 : Int32), (), rfl, h, x_ht ht hP⟩, hS.F ht⟩) hS.2.2 dX7_isDue_28
  · have h := h.2 c_2
    refine lv_aload_n hx hb dX7_isDue_12 rfl (lv_at hl 0 rfl) ?_
    refine lv_iload_n hx hb dX7_isDue_13 rfl (lv_at hl 1 rfl) ?_
    refine lv_iconst (v := (0 : Int32)) hx hb dX7_isDue_14 (by decide) ?_
    refine va_calll (va_runV (As := [.int x1, .int (0 : Int32)]) (rest := []) ⟨hx, hb, C0.2.2.1, hown, hts⟩ (qX7_get l dC dI ad ci A hAD r x1 (0 : Int32) _ h) (cwV 2 hts gX7_isDue_X7_get rfl rfl rfl (by decide +kernel) ⟨Nat.le_of_ble_eq_true rfl, Nat.le_of_ble_eq_true rfl⟩) ⟨xr_blind, xr_recv (r := (RX7, TX7, 9)) hK hP 0 (by decide) me_M rfl, xr_pre hP hK⟩ rfl rfl hl.1 rfl (lv_room (Nat.le_of_ble_eq_true rfl)) dX7_isDue_15 ⟨Nat.le_of_ble_eq_true rfl, Nat.le_of_ble_eq_true rfl⟩) hS (fun _ _ h => h) (fun _ h => h) (fun r_3 _ t9 H locs ht hvm h hB _ _ hS => ?_)
    refine W.cs (cells' := 0) (slots' := 0) rfl rfl ?_
    have hP := x_th ht hB
    have hP : va_P (dC, dI) vwCl (xw 7 ad (mc ad ci r)) H := hP
    refine lv_lconst (v := (1 : Int64)) hx hb dX7_isDue_18 (by decide) ?_
    refine xr_if_lcmp_ne (tgt := 27) hx hb dX7_isDue_19 dX7_isDue_20 (by decide) (fun c_4 => ?_) (fun c_4 => ?_)
    · have h := h.2 c_4
      refine lv_iconst (v := (0 : Int32)) hx hb dX7_isDue_27 (by decide) ?_
      exact W.zret (v := (0 : Int32)) (ty := .boolean) hx hb hr (by decide) (fun t ht hW => ⟨⟨(0 : Int32), (), rfl, h, x_ht ht hP⟩, hS.F ht⟩) hS.2.2 dX7_isDue_28
    · have h := h.1 c_4
      refine lv_iconst (v := (1 : Int32)) hx hb dX7_isDue_23 (by decide) ?_
      refine lv_goto (tgt := 28) hx hb dX7_isDue_24 (by decide) ?_
      exact W.zret (v := (1 : Int32)) (ty := .boolean) hx hb hr (by decide) (fun t ht hW => ⟨⟨(1 : Int32), (), rfl, h, x_ht ht hP⟩, hS.F ht⟩) hS.2.2 dX7_isDue_28
abbrev rmX7_hasTick : Room := { frames := 2, cells := 0, slots := 0, locals := 46 }
theorem wX7_hasTick_k48 : Cond.constantLong RX7 48 (-2000000005) ∈ wsX7_hasTick := by decide +kernel
def PX7_hasTick  (r : MmV) (x1 : Int32) (post : Int32 → Prop) : Prop :=
  (PX7_isDue r x1 (fun (r_1 : Int32) => ((r_1 = 0 → post (0 : Int32)) ∧ (¬ r_1 = 0 → (PX7_get r x1 (3 : Int32) (fun (r_3 : Int64) => ((r_3 = (-2000000005 : Int64) → post (0 : Int32)) ∧ (¬ r_3 = (-2000000005 : Int64) → post (1 : Int32)))))))))
set_option maxHeartbeats 4000000 in
set_option maxRecDepth 100000 in
theorem qX7_hasTick (l : Launch) (dC : Nat → ClassId) (dI : Nat → Nat → Nat) (ad : Nat → Nat) (ci : Nat → ClassId) (A : Nat → Prop) (hAD : xw_D 7 ad A) (r : MmV) (x1 : Int32) (post : Int32 → Prop) (h : PX7_hasTick r x1 post) : Met l yX7_hasTick wsX7_hasTick rmX7_hasTick (va_Pc [.ref (ad 0), .int x1] (fun U => va_P (dC, dI) vwCl (xw 7 ad (mc ad ci r)) U.heap ∧ va_K (dC, dI) vwCl (xT ci) U)) (va_Qi (fun r9 (u : Unit) => post r9 ) (fun u t => va_P (dC, dI) vwCl (xw 7 ad (mc ad ci r)) t.heap) A) 0 0 A := by
  refine Met.ofW (cc := cX7_hasTick) (maxL := 2) (ret := (some .boolean)) (by decide) rfl ?_
  intro p e s m args below meth c s₁ B hml hv
  obtain ⟨eargs, hP, hK⟩ := hv
  have C0 : xC p s m args meth c cX7_hasTick 2 (some .boolean) RX7 wsX7_hasTick (dC, dI) (xT ci) := ⟨B.exec, B.bytes, hml, B.returns, B.notSynchronized, findClass_of_methodNamed B.named, atoms_spec (ws := wsX7_hasTick) B.pre, hK⟩
  obtain ⟨hx, hb, -, hr, hlocks, hown, hts, -⟩ := id C0
  have hS : va_S A s.heap s.heap [] := va_S.rf
  have hl := lv_entry ([.ref (ad 0), .int x1]) (n := 2) (Nat.le_of_ble_eq_true rfl)
  have ef : entryFrame m args 2 = entryFrame m ([.ref (ad 0), .int x1] : List Value).toArray 2 := by rw [eargs]
  rw [ef, lg_entry_eq]
  generalize (lg_sl ([.ref (ad 0), .int x1]) ++ List.replicate (2 - (lg_sl ([.ref (ad 0), .int x1])).length) Slot.unset).toArray = ls at hl ⊢
  have hl : lv_has ls 2 [(0, .ref (ad 0)), (1, .int x1)] := hl
  have hP : va_P (dC, dI) vwCl (xw 7 ad (mc ad ci r)) s.heap := hP
  unfold PX7_hasTick at h
  refine lv_aload_n hx hb dX7_hasTick_0 rfl (lv_at hl 0 rfl) ?_
  refine lv_iload_n hx hb dX7_hasTick_1 rfl (lv_at hl 1 rfl) ?_
  refine va_calli (va_runV (As := [.int x1]) (rest := []) ⟨hx, hb, C0.2.2.1, hown, hts⟩ (qX7_isDue l dC dI ad ci A hAD r x1 _ h) (cwV 1 hts gX7_hasTick_X7_isDue rfl rfl rfl (by decide +kernel) ⟨Nat.le_of_ble_eq_true rfl, Nat.le_of_ble_eq_true rfl⟩) ⟨xr_blind, xr_recv (r := (RX7, TX7, 9)) hK hP 0 (by decide) me_M rfl, xr_pre hP hK⟩ rfl rfl hl.1 rfl (lv_room (Nat.le_of_ble_eq_true rfl)) dX7_hasTick_2 ⟨Nat.le_of_ble_eq_true rfl, Nat.le_of_ble_eq_true rfl⟩) hS (fun _ _ h => h) (fun _ h => h) (fun r_1 _ t9 H locs ht hvm h hB _ _ hS => ?_)
  refine W.cs (cells' := 0) (slots' := 0) rfl rfl ?_
  have hP := x_th ht hB
  have hP : va_P (dC, dI) vwCl (xw 7 ad (mc ad ci r)) H := hP
  refine lv_if_eq (tgt := 25) hx hb dX7_hasTick_5 (by decide) (fun c_2 => ?_) (fun c_2 => ?_)
  · have h := h.1 c_2
    refine lv_iconst (v := (0 : Int32)) hx hb dX7_hasTick_25 (by decide) ?_
    exact W.zret (v := (0 : Int32)) (ty := .boolean) hx hb hr (by decide) (fun t ht hW => ⟨⟨(0 : Int32), (), rfl, h, x_ht ht hP⟩, hS.F ht⟩) hS.2.2 dX7_hasTick_26
  · have h := h.2 c_2
    refine lv_aload_n hx hb dX7_hasTick_8 rfl (lv_at hl 0 rfl) ?_
    refine lv_iload_n hx hb dX7_hasTick_9 rfl (lv_at hl 1 rfl) ?_
    refine lv_iconst (v := (3 : Int32)) hx hb dX7_hasTick_10 (by decide) ?_
    refine va_calll (va_runV (As := [.int x1, .int (3 : Int32)]) (rest := []) ⟨hx, hb, C0.2.2.1, hown, hts⟩ (qX7_get l dC dI ad ci A hAD r x1 (3 : Int32) _ h) (cwV 2 hts gX7_hasTick_X7_get rfl rfl rfl (by decide +kernel) ⟨Nat.le_of_ble_eq_true rfl, Nat.le_of_ble_eq_true rfl⟩) ⟨xr_blind, xr_recv (r := (RX7, TX7, 9)) hK hP 0 (by decide) me_M rfl, xr_pre hP hK⟩ rfl rfl hl.1 rfl (lv_room (Nat.le_of_ble_eq_true rfl)) dX7_hasTick_11 ⟨Nat.le_of_ble_eq_true rfl, Nat.le_of_ble_eq_true rfl⟩) hS (fun _ _ h => h) (fun _ h => h) (fun r_3 _ t9 H locs ht hvm h hB _ _ hS => ?_)
    refine W.cs (cells' := 0) (slots' := 0) rfl rfl ?_
    have hP := x_th ht hB
    have hP : va_P (dC, dI) vwCl (xw 7 ad (mc ad ci r)) H := hP
    refine lv_ldc2 (v := (-2000000005 : Int64)) hx hb hown (hts _ wX7_hasTick_k48) dX7_hasTick_14 ?_
    refine xr_if_lcmp_eq (tgt := 25) hx hb dX7_hasTick_17 dX7_hasTick_18 (by decide) (fun c_4 => ?_) (fun c_4 => ?_)
    · have h := h.1 c_4
      refine lv_iconst (v := (0 : Int32)) hx hb dX7_hasTick_25 (by decide) ?_
      exact W.zret (v := (0 : Int32)) (ty := .boolean) hx hb hr (by decide) (fun t ht hW => ⟨⟨(0 : Int32), (), rfl, h, x_ht ht hP⟩, hS.F ht⟩) hS.2.2 dX7_hasTick_26
    · have h := h.2 c_4
      refine lv_iconst (v := (1 : Int32)) hx hb dX7_hasTick_21 (by decide) ?_
      refine lv_goto (tgt := 26) hx hb dX7_hasTick_22 (by decide) ?_
      exact W.zret (v := (1 : Int32)) (ty := .boolean) hx hb hr (by decide) (fun t ht hW => ⟨⟨(1 : Int32), (), rfl, h, x_ht ht hP⟩, hS.F ht⟩) hS.2.2 dX7_hasTick_26
abbrev rmX7_waits : Room := { frames := 2, cells := 0, slots := 0, locals := 46 }
theorem wX7_waits_k48 : Cond.constantLong RX7 48 (-2000000005) ∈ wsX7_waits := by decide +kernel
def PX7_waits  (r : MmV) (x1 : Int32) (post : Int32 → Prop) : Prop :=
  (PX7_isDue r x1 (fun (r_1 : Int32) => ((r_1 = 0 → post (0 : Int32)) ∧ (¬ r_1 = 0 → (PX7_get r x1 (7 : Int32) (fun (r_3 : Int64) => ((r_3 = (-2000000005 : Int64) → post (0 : Int32)) ∧ (¬ r_3 = (-2000000005 : Int64) → post (1 : Int32)))))))))
set_option maxHeartbeats 4000000 in
set_option maxRecDepth 100000 in
theorem qX7_waits (l : Launch) (dC : Nat → ClassId) (dI : Nat → Nat → Nat) (ad : Nat → Nat) (ci : Nat → ClassId) (A : Nat → Prop) (hAD : xw_D 7 ad A) (r : MmV) (x1 : Int32) (post : Int32 → Prop) (h : PX7_waits r x1 post) : Met l yX7_waits wsX7_waits rmX7_waits (va_Pc [.ref (ad 0), .int x1] (fun U => va_P (dC, dI) vwCl (xw 7 ad (mc ad ci r)) U.heap ∧ va_K (dC, dI) vwCl (xT ci) U)) (va_Qi (fun r9 (u : Unit) => post r9 ) (fun u t => va_P (dC, dI) vwCl (xw 7 ad (mc ad ci r)) t.heap) A) 0 0 A := by
  refine Met.ofW (cc := cX7_waits) (maxL := 2) (ret := (some .boolean)) (by decide) rfl ?_
  intro p e s m args below meth c s₁ B hml hv
  obtain ⟨eargs, hP, hK⟩ := hv
  have C0 : xC p s m args meth c cX7_waits 2 (some .boolean) RX7 wsX7_waits (dC, dI) (xT ci) := ⟨B.exec, B.bytes, hml, B.returns, B.notSynchronized, findClass_of_methodNamed B.named, atoms_spec (ws := wsX7_waits) B.pre, hK⟩
  obtain ⟨hx, hb, -, hr, hlocks, hown, hts, -⟩ := id C0
  have hS : va_S A s.heap s.heap [] := va_S.rf
  have hl := lv_entry ([.ref (ad 0), .int x1]) (n := 2) (Nat.le_of_ble_eq_true rfl)
  have ef : entryFrame m args 2 = entryFrame m ([.ref (ad 0), .int x1] : List Value).toArray 2 := by rw [eargs]
  rw [ef, lg_entry_eq]
  generalize (lg_sl ([.ref (ad 0), .int x1]) ++ List.replicate (2 - (lg_sl ([.ref (ad 0), .int x1])).length) Slot.unset).toArray = ls at hl ⊢
  have hl : lv_has ls 2 [(0, .ref (ad 0)), (1, .int x1)] := hl
  have hP : va_P (dC, dI) vwCl (xw 7 ad (mc ad ci r)) s.heap := hP
  unfold PX7_waits at h
  refine lv_aload_n hx hb dX7_waits_0 rfl (lv_at hl 0 rfl) ?_
  refine lv_iload_n hx hb dX7_waits_1 rfl (lv_at hl 1 rfl) ?_
  refine va_calli (va_runV (As := [.int x1]) (rest := []) ⟨hx, hb, C0.2.2.1, hown, hts⟩ (qX7_isDue l dC dI ad ci A hAD r x1 _ h) (cwV 1 hts gX7_waits_X7_isDue rfl rfl rfl (by decide +kernel) ⟨Nat.le_of_ble_eq_true rfl, Nat.le_of_ble_eq_true rfl⟩) ⟨xr_blind, xr_recv (r := (RX7, TX7, 9)) hK hP 0 (by decide) me_M rfl, xr_pre hP hK⟩ rfl rfl hl.1 rfl (lv_room (Nat.le_of_ble_eq_true rfl)) dX7_waits_2 ⟨Nat.le_of_ble_eq_true rfl, Nat.le_of_ble_eq_true rfl⟩) hS (fun _ _ h => h) (fun _ h => h) (fun r_1 _ t9 H locs ht hvm h hB _ _ hS => ?_)
  refine W.cs (cells' := 0) (slots' := 0) rfl rfl ?_
  have hP := x_th ht hB
  have hP : va_P (dC, dI) vwCl (xw 7 ad (mc ad ci r)) H := hP
  refine lv_if_eq (tgt := 26) hx hb dX7_waits_5 (by decide) (fun c_2 => ?_) (fun c_2 => ?_)
  · have h := h.1 c_2
    refine lv_iconst (v := (0 : Int32)) hx hb dX7_waits_26 (by decide) ?_
    exact W.zret (v := (0 : Int32)) (ty := .boolean) hx hb hr (by decide) (fun t ht hW => ⟨⟨(0 : Int32), (), rfl, h, x_ht ht hP⟩, hS.F ht⟩) hS.2.2 dX7_waits_27
  · have h := h.2 c_2
    refine lv_aload_n hx hb dX7_waits_8 rfl (lv_at hl 0 rfl) ?_
    refine lv_iload_n hx hb dX7_waits_9 rfl (lv_at hl 1 rfl) ?_
    refine lv_bipush (v := (7 : Int32)) hx hb dX7_waits_10 (by decide) ?_
    refine va_calll (va_runV (As := [.int x1, .int (7 : Int32)]) (rest := []) ⟨hx, hb, C0.2.2.1, hown, hts⟩ (qX7_get l dC dI ad ci A hAD r x1 (7 : Int32) _ h) (cwV 2 hts gX7_waits_X7_get rfl rfl rfl (by decide +kernel) ⟨Nat.le_of_ble_eq_true rfl, Nat.le_of_ble_eq_true rfl⟩) ⟨xr_blind, xr_recv (r := (RX7, TX7, 9)) hK hP 0 (by decide) me_M rfl, xr_pre hP hK⟩ rfl rfl hl.1 rfl (lv_room (Nat.le_of_ble_eq_true rfl)) dX7_waits_12 ⟨Nat.le_of_ble_eq_true rfl, Nat.le_of_ble_eq_true rfl⟩) hS (fun _ _ h => h) (fun _ h => h) (fun r_3 _ t9 H locs ht hvm h hB _ _ hS => ?_)
    refine W.cs (cells' := 0) (slots' := 0) rfl rfl ?_
    have hP := x_th ht hB
    have hP : va_P (dC, dI) vwCl (xw 7 ad (mc ad ci r)) H := hP
    refine lv_ldc2 (v := (-2000000005 : Int64)) hx hb hown (hts _ wX7_waits_k48) dX7_waits_15 ?_
    refine xr_if_lcmp_eq (tgt := 26) hx hb dX7_waits_18 dX7_waits_19 (by decide) (fun c_4 => ?_) (fun c_4 => ?_)
    · have h := h.1 c_4
      refine lv_iconst (v := (0 : Int32)) hx hb dX7_waits_26 (by decide) ?_
      exact W.zret (v := (0 : Int32)) (ty := .boolean) hx hb hr (by decide) (fun t ht hW => ⟨⟨(0 : Int32), (), rfl, h, x_ht ht hP⟩, hS.F ht⟩) hS.2.2 dX7_waits_27
    · have h := h.2 c_4
      refine lv_iconst (v := (1 : Int32)) hx hb dX7_waits_22 (by decide) ?_
      refine lv_goto (tgt := 27) hx hb dX7_waits_23 (by decide) ?_
      exact W.zret (v := (1 : Int32)) (ty := .boolean) hx hb hr (by decide) (fun t ht hW => ⟨⟨(1 : Int32), (), rfl, h, x_ht ht hP⟩, hS.F ht⟩) hS.2.2 dX7_waits_27
abbrev rmX7_rests : Room := { frames := 2, cells := 0, slots := 0, locals := 46 }
theorem wX7_rests_k48 : Cond.constantLong RX7 48 (-2000000005) ∈ wsX7_rests := by decide +kernel
def PX7_rests  (r : MmV) (x1 : Int32) (post : Int32 → Prop) : Prop :=
  (PX7_isDue r x1 (fun (r_1 : Int32) => ((r_1 = 0 → post (0 : Int32)) ∧ (¬ r_1 = 0 → (PX7_get r x1 (10 : Int32) (fun (r_3 : Int64) => ((r_3 = (-2000000005 : Int64) → post (0 : Int32)) ∧ (¬ r_3 = (-2000000005 : Int64) → post (1 : Int32)))))))))
set_option maxHeartbeats 4000000 in
set_option maxRecDepth 100000 in
theorem qX7_rests (l : Launch) (dC : Nat → ClassId) (dI : Nat → Nat → Nat) (ad : Nat → Nat) (ci : Nat → ClassId) (A : Nat → Prop) (hAD : xw_D 7 ad A) (r : MmV) (x1 : Int32) (post : Int32 → Prop) (h : PX7_rests r x1 post) : Met l yX7_rests wsX7_rests rmX7_rests (va_Pc [.ref (ad 0), .int x1] (fun U => va_P (dC, dI) vwCl (xw 7 ad (mc ad ci r)) U.heap ∧ va_K (dC, dI) vwCl (xT ci) U)) (va_Qi (fun r9 (u : Unit) => post r9 ) (fun u t => va_P (dC, dI) vwCl (xw 7 ad (mc ad ci r)) t.heap) A) 0 0 A := by
  refine Met.ofW (cc := cX7_rests) (maxL := 2) (ret := (some .boolean)) (by decide) rfl ?_
  intro p e s m args below meth c s₁ B hml hv
  obtain ⟨eargs, hP, hK⟩ := hv
  have C0 : xC p s m args meth c cX7_rests 2 (some .boolean) RX7 wsX7_rests (dC, dI) (xT ci) := ⟨B.exec, B.bytes, hml, B.returns, B.notSynchronized, findClass_of_methodNamed B.named, atoms_spec (ws := wsX7_rests) B.pre, hK⟩
  obtain ⟨hx, hb, -, hr, hlocks, hown, hts, -⟩ := id C0
  have hS : va_S A s.heap s.heap [] := va_S.rf
  have hl := lv_entry ([.ref (ad 0), .int x1]) (n := 2) (Nat.le_of_ble_eq_true rfl)
  have ef : entryFrame m args 2 = entryFrame m ([.ref (ad 0), .int x1] : List Value).toArray 2 := by rw [eargs]
  rw [ef, lg_entry_eq]
  generalize (lg_sl ([.ref (ad 0), .int x1]) ++ List.replicate (2 - (lg_sl ([.ref (ad 0), .int x1])).length) Slot.unset).toArray = ls at hl ⊢
  have hl : lv_has ls 2 [(0, .ref (ad 0)), (1, .int x1)] := hl
  have hP : va_P (dC, dI) vwCl (xw 7 ad (mc ad ci r)) s.heap := hP
  unfold PX7_rests at h
  refine lv_aload_n hx hb dX7_rests_0 rfl (lv_at hl 0 rfl) ?_
  refine lv_iload_n hx hb dX7_rests_1 rfl (lv_at hl 1 rfl) ?_
  refine va_calli (va_runV (As := [.int x1]) (rest := []) ⟨hx, hb, C0.2.2.1, hown, hts⟩ (qX7_isDue l dC dI ad ci A hAD r x1 _ h) (cwV 1 hts gX7_rests_X7_isDue rfl rfl rfl (by decide +kernel) ⟨Nat.le_of_ble_eq_true rfl, Nat.le_of_ble_eq_true rfl⟩) ⟨xr_blind, xr_recv (r := (RX7, TX7, 9)) hK hP 0 (by decide) me_M rfl, xr_pre hP hK⟩ rfl rfl hl.1 rfl (lv_room (Nat.le_of_ble_eq_true rfl)) dX7_rests_2 ⟨Nat.le_of_ble_eq_true rfl, Nat.le_of_ble_eq_true rfl⟩) hS (fun _ _ h => h) (fun _ h => h) (fun r_1 _ t9 H locs ht hvm h hB _ _ hS => ?_)
  refine W.cs (cells' := 0) (slots' := 0) rfl rfl ?_
  have hP := x_th ht hB
  have hP : va_P (dC, dI) vwCl (xw 7 ad (mc ad ci r)) H := hP
  refine lv_if_eq (tgt := 26) hx hb dX7_rests_5 (by decide) (fun c_2 => ?_) (fun c_2 => ?_)
  · have h := h.1 c_2
    refine lv_iconst (v := (0 : Int32)) hx hb dX7_rests_26 (by decide) ?_
    exact W.zret (v := (0 : Int32)) (ty := .boolean) hx hb hr (by decide) (fun t ht hW => ⟨⟨(0 : Int32), (), rfl, h, x_ht ht hP⟩, hS.F ht⟩) hS.2.2 dX7_rests_27
  · have h := h.2 c_2
    refine lv_aload_n hx hb dX7_rests_8 rfl (lv_at hl 0 rfl) ?_
    refine lv_iload_n hx hb dX7_rests_9 rfl (lv_at hl 1 rfl) ?_
    refine lv_bipush (v := (10 : Int32)) hx hb dX7_rests_10 (by decide) ?_
    refine va_calll (va_runV (As := [.int x1, .int (10 : Int32)]) (rest := []) ⟨hx, hb, C0.2.2.1, hown, hts⟩ (qX7_get l dC dI ad ci A hAD r x1 (10 : Int32) _ h) (cwV 2 hts gX7_rests_X7_get rfl rfl rfl (by decide +kernel) ⟨Nat.le_of_ble_eq_true rfl, Nat.le_of_ble_eq_true rfl⟩) ⟨xr_blind, xr_recv (r := (RX7, TX7, 9)) hK hP 0 (by decide) me_M rfl, xr_pre hP hK⟩ rfl rfl hl.1 rfl (lv_room (Nat.le_of_ble_eq_true rfl)) dX7_rests_12 ⟨Nat.le_of_ble_eq_true rfl, Nat.le_of_ble_eq_true rfl⟩) hS (fun _ _ h => h) (fun _ h => h) (fun r_3 _ t9 H locs ht hvm h hB _ _ hS => ?_)
    refine W.cs (cells' := 0) (slots' := 0) rfl rfl ?_
    have hP := x_th ht hB
    have hP : va_P (dC, dI) vwCl (xw 7 ad (mc ad ci r)) H := hP
    refine lv_ldc2 (v := (-2000000005 : Int64)) hx hb hown (hts _ wX7_rests_k48) dX7_rests_15 ?_
    refine xr_if_lcmp_eq (tgt := 26) hx hb dX7_rests_18 dX7_rests_19 (by decide) (fun c_4 => ?_) (fun c_4 => ?_)
    · have h := h.1 c_4
      refine lv_iconst (v := (0 : Int32)) hx hb dX7_rests_26 (by decide) ?_
      exact W.zret (v := (0 : Int32)) (ty := .boolean) hx hb hr (by decide) (fun t ht hW => ⟨⟨(0 : Int32), (), rfl, h, x_ht ht hP⟩, hS.F ht⟩) hS.2.2 dX7_rests_27
    · have h := h.2 c_4
      refine lv_iconst (v := (1 : Int32)) hx hb dX7_rests_22 (by decide) ?_
      refine lv_goto (tgt := 27) hx hb dX7_rests_23 (by decide) ?_
      exact W.zret (v := (1 : Int32)) (ty := .boolean) hx hb hr (by decide) (fun t ht hW => ⟨⟨(1 : Int32), (), rfl, h, x_ht ht hP⟩, hS.F ht⟩) hS.2.2 dX7_rests_27
abbrev rmX7_keep : Room := { frames := 0, cells := 0, slots := 0, locals := 0 }
theorem wX7_keep_c7 : ∀ w ∈ u_ws RX7 TX7 9, w ∈ wsX7_keep := by decide +kernel
theorem wX7_keep_f30 : Cond.fieldLink RX7 30 "DueWheelsModel" "kept" "I" ∈ wsX7_keep := by decide +kernel
theorem wX7_keep_f7 : Cond.fieldLink RX7 7 "DueWheelsModel" "s" "[J" ∈ wsX7_keep := by decide +kernel
theorem wX7_keep_f13 : Cond.fieldLink RX7 13 "DueWheelsModel" "before" "[J" ∈ wsX7_keep := by decide +kernel
def LX7_keep_52     (post : MmV → Prop) : Nat → Int32 → MmV → Prop
  | 0, _, _ => False
  | n + 1, x1, r => (((3705 : Int32) ≤ x1 → ∀ r_3 : MmV, r_3 = m_wkp r ((m_kp r) + (1 : Int32)) → post r_3) ∧ (¬ (3705 : Int32) ≤ x1 → (vp_in x1 3705 ∧ (vp_in (((3705 : Int32) * (m_kp r)) + x1) 22230 ∧ (∀ r_6 : MmV, r_6 = m_wbf r (vp_updL (m_bf r) ((((3705 : Int32) * (m_kp r)) + x1).toNatClampNeg) (m_s r (x1.toNatClampNeg))) → ∀ x1_7 : Int32, x1_7 = x1 + 1 → LX7_keep_52  post n x1_7 r_6)))))
set_option maxHeartbeats 4000000 in
set_option maxRecDepth 100000 in
theorem kX7_keep_52 {p : Program} {e : Env} {s : State} {m : MethodId} {args : Array Value} {below : List Frame} {meth : Method} {c : Code} (l : Launch) (dC : Nat → ClassId) (dI : Nat → Nat → Nat) (ad : Nat → Nat) (ci : Nat → ClassId) (A : Nat → Prop) (hAD : xw_D 7 ad A)    (post : MmV → Prop) (C0 : xC p s m args meth c cX7_keep 2 none RX7 wsX7_keep (dC, dI) (xT ci)) : ∀ (n : Nat) (x1 : Int32) (r : MmV) (H : Heap) (locs : List Loc) (ls : Array Slot), LX7_keep_52  post n x1 r → va_P (dC, dI) vwCl (xw 7 ad (mc ad ci r)) H → va_S A s.heap H locs → lv_has ls 2 [(0, .ref (ad 0)), (1, .int x1)] → W p l e rmX7_keep s m args below meth c H locs 0 0 (MQ below (va_Qv (fun u : MmV => post u) (fun u t => va_P (dC, dI) vwCl (xw 7 ad (mc ad ci u)) t.heap) A) args s 0 0 A) (F0 m 52 ls []) := by
  obtain ⟨hx, hb, -, hr, hlocks, hown, hts, hK⟩ := id C0
  intro n
  induction n with
  | zero =>
    intro x1 r H locs ls h
    exact False.elim h
  | succ n ih =>
    intro x1 r H locs ls h hP hS hl
    rw [LX7_keep_52] at h
    refine lv_iload_n hx hb dX7_keep_52 rfl (lv_at hl 1 rfl) ?_
    refine lv_sipush (v := (3705 : Int32)) hx hb dX7_keep_53 (by decide) ?_
    refine lv_icmp_ge (tgt := 86) hx hb dX7_keep_56 (by decide) (fun c_2 => ?_) (fun c_2 => ?_)
    · have h := h.1 c_2
      refine lv_aload_n hx hb dX7_keep_86 rfl (lv_at hl 0 rfl) ?_
      refine lv_dup hx hb dX7_keep_87 rfl ?_
      refine xr_get (D := (dC, dI)) (C := RX7) (T := TX7) (N := 9) (v := .int (m_kp r)) hx hb hts wX7_keep_c7 hown hK hP 0 (by decide) me_M rfl 2 (by decide) wX7_keep_f30 rfl rfl dX7_keep_88 ?_
      refine lv_iconst (v := (1 : Int32)) hx hb dX7_keep_91 (by decide) ?_
      refine lv_iadd hx hb dX7_keep_92 ?_
      obtain ⟨r_3, er_3⟩ : ∃ z : MmV, z = m_wkp r ((m_kp r) + (1 : Int32)) := ⟨_, rfl⟩
      have h := h r_3 er_3
      refine xr_put (D := (dC, dI)) (C := RX7) (T := TX7) (N := 9) (ty := .int) (v := .int ((m_kp r) + (1 : Int32))) (g := (mc ad ci r_3)) hx hb hts wX7_keep_c7 tyX7 tyX7_ok nmX7 hown hK hP hAD hS 0 (by decide) me_M rfl 2 (by decide) wX7_keep_f30 rfl rfl (by decide +kernel) rfl rfl (Nat.le_of_ble_eq_true rfl) dX7_keep_93 (by rw [er_3]; exact mg_kp) (fun H locs hP hS => ?_)
      exact W.vret hx hb hr (fun t ht hW => ⟨⟨r_3, rfl, h, x_ht ht hP⟩, hS.F ht⟩) hS.2.2 dX7_keep_96
    · have h := h.2 c_2
      refine lv_aload_n hx hb dX7_keep_59 rfl (lv_at hl 0 rfl) ?_
      refine xr_get (D := (dC, dI)) (C := RX7) (T := TX7) (N := 9) (v := .ref (ad 2)) hx hb hts wX7_keep_c7 hown hK hP 0 (by decide) me_M rfl 1 (by decide) wX7_keep_f13 rfl rfl dX7_keep_60 ?_
      refine lv_sipush (v := (3705 : Int32)) hx hb dX7_keep_63 (by decide) ?_
      refine lv_aload_n hx hb dX7_keep_66 rfl (lv_at hl 0 rfl) ?_
      refine xr_get (D := (dC, dI)) (C := RX7) (T := TX7) (N := 9) (v := .int (m_kp r)) hx hb hts wX7_keep_c7 hown hK hP 0 (by decide) me_M rfl 2 (by decide) wX7_keep_f30 rfl rfl dX7_keep_67 ?_
      refine lv_imul hx hb dX7_keep_70 ?_
      refine lv_iload_n hx hb dX7_keep_71 rfl (lv_at hl 1 rfl) ?_
      refine lv_iadd hx hb dX7_keep_72 ?_
      refine lv_aload_n hx hb dX7_keep_73 rfl (lv_at hl 0 rfl) ?_
      refine xr_get (D := (dC, dI)) (C := RX7) (T := TX7) (N := 9) (v := .ref (ad 1)) hx hb hts wX7_keep_c7 hown hK hP 0 (by decide) me_M rfl 0 (by decide) wX7_keep_f7 rfl rfl dX7_keep_74 ?_
      refine lv_iload_n hx hb dX7_keep_77 rfl (lv_at hl 1 rfl) ?_
      obtain ⟨g_4, h⟩ := h
      refine xr_lald (k := x1.toNatClampNeg) hx hb hK hP 1 1 (by decide) me_s rfl rfl g_4 dX7_keep_78 ?_
      obtain ⟨g_5, h⟩ := h
      obtain ⟨r_6, er_6⟩ : ∃ z : MmV, z = m_wbf r (vp_updL (m_bf r) ((((3705 : Int32) * (m_kp r)) + x1).toNatClampNeg) (m_s r (x1.toNatClampNeg))) := ⟨_, rfl⟩
      have h := h r_6 er_6
      refine xr_last (k := (((3705 : Int32) * (m_kp r)) + x1).toNatClampNeg) (x := (m_s r (x1.toNatClampNeg))) (g := (mc ad ci r_6)) hx hb hK hP hAD hS 2 1 (by decide) me_bf rfl rfl g_5 dX7_keep_79 (by rw [er_6]; exact mg_bf) (fun H locs hP hS => ?_)
      obtain ⟨x1_7, ex1_7⟩ : ∃ z : Int32, z = x1 + 1 := ⟨_, rfl⟩
      have h := h x1_7 ex1_7
      refine lv_iinc (v := x1_7) (lv' := [(1, .int x1_7), (0, .ref (ad 0))]) hx hb dX7_keep_80 hl (k := 1) rfl (by rw [ex1_7]; rfl) (by decide) rfl (fun ls hl => ?_)
      refine lv_goto (tgt := 52) hx hb dX7_keep_83 (by decide) ?_
      exact ih x1_7 r_6 _ _ _ h hP hS (lv_sub hl [1, 0] rfl)
def LX7_keep_11    (K40 : MmV → Prop) (post : MmV → Prop) : Nat → Int32 → MmV → Prop
  | 0, _, _ => False
  | n + 1, x1, r => (((18525 : Int32) ≤ x1 → K40 r) ∧ (¬ (18525 : Int32) ≤ x1 → (vp_in (x1 + (3705 : Int32)) 22230 ∧ (vp_in x1 22230 ∧ (∀ r_12 : MmV, r_12 = m_wbf r (vp_updL (m_bf r) (x1.toNatClampNeg) (m_bf r ((x1 + (3705 : Int32)).toNatClampNeg))) → ∀ x1_13 : Int32, x1_13 = x1 + 1 → LX7_keep_11  K40 post n x1_13 r_12)))))
set_option maxHeartbeats 4000000 in
set_option maxRecDepth 100000 in
theorem kX7_keep_11 {p : Program} {e : Env} {s : State} {m : MethodId} {args : Array Value} {below : List Frame} {meth : Method} {c : Code} (l : Launch) (dC : Nat → ClassId) (dI : Nat → Nat → Nat) (ad : Nat → Nat) (ci : Nat → ClassId) (A : Nat → Prop) (hAD : xw_D 7 ad A)   (K40 : MmV → Prop) (post : MmV → Prop) (C0 : xC p s m args meth c cX7_keep 2 none RX7 wsX7_keep (dC, dI) (xT ci)) (hK40 : ∀ (r : MmV) (H : Heap) (locs : List Loc) (ls : Array Slot), K40 r → va_P (dC, dI) vwCl (xw 7 ad (mc ad ci r)) H → va_S A s.heap H locs → lv_has ls 2 [(0, .ref (ad 0))] → W p l e rmX7_keep s m args below meth c H locs 0 0 (MQ below (va_Qv (fun u : MmV => post u) (fun u t => va_P (dC, dI) vwCl (xw 7 ad (mc ad ci u)) t.heap) A) args s 0 0 A) (F0 m 40 ls [])) : ∀ (n : Nat) (x1 : Int32) (r : MmV) (H : Heap) (locs : List Loc) (ls : Array Slot), LX7_keep_11  K40 post n x1 r → va_P (dC, dI) vwCl (xw 7 ad (mc ad ci r)) H → va_S A s.heap H locs → lv_has ls 2 [(0, .ref (ad 0)), (1, .int x1)] → W p l e rmX7_keep s m args below meth c H locs 0 0 (MQ below (va_Qv (fun u : MmV => post u) (fun u t => va_P (dC, dI) vwCl (xw 7 ad (mc ad ci u)) t.heap) A) args s 0 0 A) (F0 m 11 ls []) := by
  obtain ⟨hx, hb, -, hr, hlocks, hown, hts, hK⟩ := id C0
  intro n
  induction n with
  | zero =>
    intro x1 r H locs ls h
    exact False.elim h
  | succ n ih =>
    intro x1 r H locs ls h hP hS hl
    rw [LX7_keep_11] at h
    refine lv_iload_n hx hb dX7_keep_11 rfl (lv_at hl 1 rfl) ?_
    refine lv_sipush (v := (18525 : Int32)) hx hb dX7_keep_12 (by decide) ?_
    refine lv_icmp_ge (tgt := 40) hx hb dX7_keep_15 (by decide) (fun c_9 => ?_) (fun c_9 => ?_)
    · have h := h.1 c_9
      exact hK40 r _ _ _ h hP hS (lv_sub hl [0] rfl)
    · have h := h.2 c_9
      refine lv_aload_n hx hb dX7_keep_18 rfl (lv_at hl 0 rfl) ?_
      refine xr_get (D := (dC, dI)) (C := RX7) (T := TX7) (N := 9) (v := .ref (ad 2)) hx hb hts wX7_keep_c7 hown hK hP 0 (by decide) me_M rfl 1 (by decide) wX7_keep_f13 rfl rfl dX7_keep_19 ?_
      refine lv_iload_n hx hb dX7_keep_22 rfl (lv_at hl 1 rfl) ?_
      refine lv_aload_n hx hb dX7_keep_23 rfl (lv_at hl 0 rfl) ?_
      refine xr_get (D := (dC, dI)) (C := RX7) (T := TX7) (N := 9) (v := .ref (ad 2)) hx hb hts wX7_keep_c7 hown hK hP 0 (by decide) me_M rfl 1 (by decide) wX7_keep_f13 rfl rfl dX7_keep_24 ?_
      refine lv_iload_n hx hb dX7_keep_27 rfl (lv_at hl 1 rfl) ?_
      refine lv_sipush (v := (3705 : Int32)) hx hb dX7_keep_28 (by decide) ?_
      refine lv_iadd hx hb dX7_keep_31 ?_
      obtain ⟨g_10, h⟩ := h
      refine xr_lald (k := (x1 + (3705 : Int32)).toNatClampNeg) hx hb hK hP 2 1 (by decide) me_bf rfl rfl g_10 dX7_keep_32 ?_
      obtain ⟨g_11, h⟩ := h
      obtain ⟨r_12, er_12⟩ : ∃ z : MmV, z = m_wbf r (vp_updL (m_bf r) (x1.toNatClampNeg) (m_bf r ((x1 + (3705 : Int32)).toNatClampNeg))) := ⟨_, rfl⟩
      have h := h r_12 er_12
      refine xr_last (k := x1.toNatClampNeg) (x := (m_bf r ((x1 + (3705 : Int32)).toNatClampNeg))) (g := (mc ad ci r_12)) hx hb hK hP hAD hS 2 1 (by decide) me_bf rfl rfl g_11 dX7_keep_33 (by rw [er_12]; exact mg_bf) (fun H locs hP hS => ?_)
      obtain ⟨x1_13, ex1_13⟩ : ∃ z : Int32, z = x1 + 1 := ⟨_, rfl⟩
      have h := h x1_13 ex1_13
      refine lv_iinc (v := x1_13) (lv' := [(1, .int x1_13), (0, .ref (ad 0))]) hx hb dX7_keep_34 hl (k := 1) rfl (by rw [ex1_13]; rfl) (by decide) rfl (fun ls hl => ?_)
      refine lv_goto (tgt := 11) hx hb dX7_keep_37 (by decide) ?_
      exact ih x1_13 r_12 _ _ _ h hP hS (lv_sub hl [1, 0] rfl)
def PX7_keep  (r : MmV)  (post : MmV → Prop) : Prop :=
  (((m_kp r) = (6 : Int32) → (∃ n_17 : Nat, LX7_keep_11   (fun (r_14 : MmV) => ∀ r_15 : MmV, r_15 = m_wkp r_14 ((m_kp r_14) - (1 : Int32)) → (∃ n_16 : Nat, LX7_keep_52    post n_16 (0 : Int32) r_15)) post n_17 (0 : Int32) r)) ∧ (¬ (m_kp r) = (6 : Int32) → (∃ n_8 : Nat, LX7_keep_52    post n_8 (0 : Int32) r)))
set_option maxHeartbeats 4000000 in
set_option maxRecDepth 100000 in
theorem qX7_keep (l : Launch) (dC : Nat → ClassId) (dI : Nat → Nat → Nat) (ad : Nat → Nat) (ci : Nat → ClassId) (A : Nat → Prop) (hAD : xw_D 7 ad A) (r : MmV)  (post : MmV → Prop) (h : PX7_keep r post) : Met l yX7_keep wsX7_keep rmX7_keep (va_Pc [.ref (ad 0)] (fun U => va_P (dC, dI) vwCl (xw 7 ad (mc ad ci r)) U.heap ∧ va_K (dC, dI) vwCl (xT ci) U)) (va_Qv (fun u : MmV => post u) (fun u t => va_P (dC, dI) vwCl (xw 7 ad (mc ad ci u)) t.heap) A) 0 0 A := by
  refine Met.ofW (cc := cX7_keep) (maxL := 2) (ret := none) (by decide) rfl ?_
  intro p e s m args below meth c s₁ B hml hv
  obtain ⟨eargs, hP, hK⟩ := hv
  have C0 : xC p s m args meth c cX7_keep 2 none RX7 wsX7_keep (dC, dI) (xT ci) := ⟨B.exec, B.bytes, hml, B.returns, B.notSynchronized, findClass_of_methodNamed B.named, atoms_spec (ws := wsX7_keep) B.pre, hK⟩
  obtain ⟨hx, hb, -, hr, hlocks, hown, hts, -⟩ := id C0
  have hS : va_S A s.heap s.heap [] := va_S.rf
  have hl := lv_entry ([.ref (ad 0)]) (n := 2) (Nat.le_of_ble_eq_true rfl)
  have ef : entryFrame m args 2 = entryFrame m ([.ref (ad 0)] : List Value).toArray 2 := by rw [eargs]
  rw [ef, lg_entry_eq]
  generalize (lg_sl ([.ref (ad 0)]) ++ List.replicate (2 - (lg_sl ([.ref (ad 0)])).length) Slot.unset).toArray = ls at hl ⊢
  have hl : lv_has ls 2 [(0, .ref (ad 0))] := hl
  have hP : va_P (dC, dI) vwCl (xw 7 ad (mc ad ci r)) s.heap := hP
  unfold PX7_keep at h
  refine lv_aload_n hx hb dX7_keep_0 rfl (lv_at hl 0 rfl) ?_
  refine xr_get (D := (dC, dI)) (C := RX7) (T := TX7) (N := 9) (v := .int (m_kp r)) hx hb hts wX7_keep_c7 hown hK hP 0 (by decide) me_M rfl 2 (by decide) wX7_keep_f30 rfl rfl dX7_keep_1 ?_
  refine lv_bipush (v := (6 : Int32)) hx hb dX7_keep_4 (by decide) ?_
  refine lv_icmp_ne (tgt := 50) hx hb dX7_keep_6 (by decide) (fun c_1 => ?_) (fun c_1 => ?_)
  · have h := h.2 c_1
    refine lv_iconst (v := (0 : Int32)) hx hb dX7_keep_50 (by decide) ?_
    refine lv_istore_n (lv' := [(1, .int (0 : Int32)), (0, .ref (ad 0))]) hx hb dX7_keep_51 rfl hl (by decide) rfl (fun ls hl => ?_)
    obtain ⟨n_8, h⟩ := h
    exact kX7_keep_52 l dC dI ad ci A hAD      post C0  n_8 (0 : Int32) r _ _ _ h hP hS (lv_sub hl [1, 0] rfl)
  · have h := h.1 c_1
    refine lv_iconst (v := (0 : Int32)) hx hb dX7_keep_9 (by decide) ?_
    refine lv_istore_n (lv' := [(1, .int (0 : Int32)), (0, .ref (ad 0))]) hx hb dX7_keep_10 rfl hl (by decide) rfl (fun ls hl => ?_)
    obtain ⟨n_17, h⟩ := h
    refine kX7_keep_11 l dC dI ad ci A hAD     _ post C0 ?_ n_17 (0 : Int32) r _ _ _ h hP hS (lv_sub hl [1, 0] rfl)
    · intro r_14 H locs ls h hP hS hl
      refine lv_aload_n hx hb dX7_keep_40 rfl (lv_at hl 0 rfl) ?_
      refine lv_dup hx hb dX7_keep_41 rfl ?_
      refine xr_get (D := (dC, dI)) (C := RX7) (T := TX7) (N := 9) (v := .int (m_kp r_14)) hx hb hts wX7_keep_c7 hown hK hP 0 (by decide) me_M rfl 2 (by decide) wX7_keep_f30 rfl rfl dX7_keep_42 ?_
      refine lv_iconst (v := (1 : Int32)) hx hb dX7_keep_45 (by decide) ?_
      refine lv_isub hx hb dX7_keep_46 ?_
      obtain ⟨r_15, er_15⟩ : ∃ z : MmV, z = m_wkp r_14 ((m_kp r_14) - (1 : Int32)) := ⟨_, rfl⟩
      have h := h r_15 er_15
      refine xr_put (D := (dC, dI)) (C := RX7) (T := TX7) (N := 9) (ty := .int) (v := .int ((m_kp r_14) - (1 : Int32))) (g := (mc ad ci r_15)) hx hb hts wX7_keep_c7 tyX7 tyX7_ok nmX7 hown hK hP hAD hS 0 (by decide) me_M rfl 2 (by decide) wX7_keep_f30 rfl rfl (by decide +kernel) rfl rfl (Nat.le_of_ble_eq_true rfl) dX7_keep_47 (by rw [er_15]; exact mg_kp) (fun H locs hP hS => ?_)
      refine lv_iconst (v := (0 : Int32)) hx hb dX7_keep_50 (by decide) ?_
      refine lv_istore_n (lv' := [(1, .int (0 : Int32)), (0, .ref (ad 0))]) hx hb dX7_keep_51 rfl hl (by decide) rfl (fun ls hl => ?_)
      obtain ⟨n_16, h⟩ := h
      exact kX7_keep_52 l dC dI ad ci A hAD      post C0  n_16 (0 : Int32) r_15 _ _ _ h hP hS (lv_sub hl [1, 0] rfl)
abbrev rmX7_undo : Room := { frames := 0, cells := 0, slots := 0, locals := 0 }
theorem wX7_undo_c7 : ∀ w ∈ u_ws RX7 TX7 9, w ∈ wsX7_undo := by decide +kernel
theorem wX7_undo_f30 : Cond.fieldLink RX7 30 "DueWheelsModel" "kept" "I" ∈ wsX7_undo := by decide +kernel
theorem wX7_undo_f13 : Cond.fieldLink RX7 13 "DueWheelsModel" "before" "[J" ∈ wsX7_undo := by decide +kernel
theorem wX7_undo_f7 : Cond.fieldLink RX7 7 "DueWheelsModel" "s" "[J" ∈ wsX7_undo := by decide +kernel
theorem wX7_undo_k50 : Cond.constantLong RX7 50 (-2000000002) ∈ wsX7_undo := by decide +kernel
def LX7_undo_23     (post : Int64 → MmV → Prop) : Nat → Int32 → MmV → Prop
  | 0, _, _ => False
  | n + 1, x1, r => (((3705 : Int32) ≤ x1 → post ((m_kp r).toInt64) r) ∧ (¬ (3705 : Int32) ≤ x1 → (vp_in (((3705 : Int32) * (m_kp r)) + x1) 22230 ∧ (vp_in x1 3705 ∧ (∀ r_6 : MmV, r_6 = m_ws r (vp_updL (m_s r) (x1.toNatClampNeg) (m_bf r ((((3705 : Int32) * (m_kp r)) + x1).toNatClampNeg))) → ∀ x1_7 : Int32, x1_7 = x1 + 1 → LX7_undo_23  post n x1_7 r_6)))))
set_option maxHeartbeats 4000000 in
set_option maxRecDepth 100000 in
theorem kX7_undo_23 {p : Program} {e : Env} {s : State} {m : MethodId} {args : Array Value} {below : List Frame} {meth : Method} {c : Code} (l : Launch) (dC : Nat → ClassId) (dI : Nat → Nat → Nat) (ad : Nat → Nat) (ci : Nat → ClassId) (A : Nat → Prop) (hAD : xw_D 7 ad A)    (post : Int64 → MmV → Prop) (C0 : xC p s m args meth c cX7_undo 2 (some .long) RX7 wsX7_undo (dC, dI) (xT ci)) : ∀ (n : Nat) (x1 : Int32) (r : MmV) (H : Heap) (locs : List Loc) (ls : Array Slot), LX7_undo_23  post n x1 r → va_P (dC, dI) vwCl (xw 7 ad (mc ad ci r)) H → va_S A s.heap H locs → lv_has ls 2 [(0, .ref (ad 0)), (1, .int x1)] → W p l e rmX7_undo s m args below meth c H locs 0 0 (MQ below (va_Ql (fun r9 (u : MmV) => post r9 u) (fun u t => va_P (dC, dI) vwCl (xw 7 ad (mc ad ci u)) t.heap) A) args s 0 0 A) (F0 m 23 ls []) := by
  obtain ⟨hx, hb, -, hr, hlocks, hown, hts, hK⟩ := id C0
  intro n
  induction n with
  | zero =>
    intro x1 r H locs ls h
    exact False.elim h
  | succ n ih =>
    intro x1 r H locs ls h hP hS hl
    rw [LX7_undo_23] at h
    refine lv_iload_n hx hb dX7_undo_23 rfl (lv_at hl 1 rfl) ?_
    refine lv_sipush (v := (3705 : Int32)) hx hb dX7_undo_24 (by decide) ?_
    refine lv_icmp_ge (tgt := 57) hx hb dX7_undo_27 (by decide) (fun c_3 => ?_) (fun c_3 => ?_)
    · have h := h.1 c_3
      refine lv_aload_n hx hb dX7_undo_57 rfl (lv_at hl 0 rfl) ?_
      refine xr_get (D := (dC, dI)) (C := RX7) (T := TX7) (N := 9) (v := .int (m_kp r)) hx hb hts wX7_undo_c7 hown hK hP 0 (by decide) me_M rfl 2 (by decide) wX7_undo_f30 rfl rfl dX7_undo_58 ?_
      refine lv_i2l hx hb dX7_undo_61 rfl ?_
      exact W.lret (v := ((m_kp r).toInt64)) hx hb hr (fun t ht hW => ⟨⟨((m_kp r).toInt64), r, rfl, h, x_ht ht hP⟩, hS.F ht⟩) hS.2.2 dX7_undo_62
    · have h := h.2 c_3
      refine lv_aload_n hx hb dX7_undo_30 rfl (lv_at hl 0 rfl) ?_
      refine xr_get (D := (dC, dI)) (C := RX7) (T := TX7) (N := 9) (v := .ref (ad 1)) hx hb hts wX7_undo_c7 hown hK hP 0 (by decide) me_M rfl 0 (by decide) wX7_undo_f7 rfl rfl dX7_undo_31 ?_
      refine lv_iload_n hx hb dX7_undo_34 rfl (lv_at hl 1 rfl) ?_
      refine lv_aload_n hx hb dX7_undo_35 rfl (lv_at hl 0 rfl) ?_
      refine xr_get (D := (dC, dI)) (C := RX7) (T := TX7) (N := 9) (v := .ref (ad 2)) hx hb hts wX7_undo_c7 hown hK hP 0 (by decide) me_M rfl 1 (by decide) wX7_undo_f13 rfl rfl dX7_undo_36 ?_
      refine lv_sipush (v := (3705 : Int32)) hx hb dX7_undo_39 (by decide) ?_
      refine lv_aload_n hx hb dX7_undo_42 rfl (lv_at hl 0 rfl) ?_
      refine xr_get (D := (dC, dI)) (C := RX7) (T := TX7) (N := 9) (v := .int (m_kp r)) hx hb hts wX7_undo_c7 hown hK hP 0 (by decide) me_M rfl 2 (by decide) wX7_undo_f30 rfl rfl dX7_undo_43 ?_
      refine lv_imul hx hb dX7_undo_46 ?_
      refine lv_iload_n hx hb dX7_undo_47 rfl (lv_at hl 1 rfl) ?_
      refine lv_iadd hx hb dX7_undo_48 ?_
      obtain ⟨g_4, h⟩ := h
      refine xr_lald (k := (((3705 : Int32) * (m_kp r)) + x1).toNatClampNeg) hx hb hK hP 2 1 (by decide) me_bf rfl rfl g_4 dX7_undo_49 ?_
      obtain ⟨g_5, h⟩ := h
      obtain ⟨r_6, er_6⟩ : ∃ z : MmV, z = m_ws r (vp_updL (m_s r) (x1.toNatClampNeg) (m_bf r ((((3705 : Int32) * (m_kp r)) + x1).toNatClampNeg))) := ⟨_, rfl⟩
      have h := h r_6 er_6
      refine xr_last (k := x1.toNatClampNeg) (x := (m_bf r ((((3705 : Int32) * (m_kp r)) + x1).toNatClampNeg))) (g := (mc ad ci r_6)) hx hb hK hP hAD hS 1 1 (by decide) me_s rfl rfl g_5 dX7_undo_50 (by rw [er_6]; exact mg_s) (fun H locs hP hS => ?_)
      obtain ⟨x1_7, ex1_7⟩ : ∃ z : Int32, z = x1 + 1 := ⟨_, rfl⟩
      have h := h x1_7 ex1_7
      refine lv_iinc (v := x1_7) (lv' := [(1, .int x1_7), (0, .ref (ad 0))]) hx hb dX7_undo_51 hl (k := 1) rfl (by rw [ex1_7]; rfl) (by decide) rfl (fun ls hl => ?_)
      refine lv_goto (tgt := 23) hx hb dX7_undo_54 (by decide) ?_
      exact ih x1_7 r_6 _ _ _ h hP hS (lv_sub hl [1, 0] rfl)
def PX7_undo  (r : MmV)  (post : Int64 → MmV → Prop) : Prop :=
  (((m_kp r) = 0 → post (-2000000002 : Int64) r) ∧ (¬ (m_kp r) = 0 → ∀ r_2 : MmV, r_2 = m_wkp r ((m_kp r) - (1 : Int32)) → (∃ n_8 : Nat, LX7_undo_23    post n_8 (0 : Int32) r_2)))
set_option maxHeartbeats 4000000 in
set_option maxRecDepth 100000 in
theorem qX7_undo (l : Launch) (dC : Nat → ClassId) (dI : Nat → Nat → Nat) (ad : Nat → Nat) (ci : Nat → ClassId) (A : Nat → Prop) (hAD : xw_D 7 ad A) (r : MmV)  (post : Int64 → MmV → Prop) (h : PX7_undo r post) : Met l yX7_undo wsX7_undo rmX7_undo (va_Pc [.ref (ad 0)] (fun U => va_P (dC, dI) vwCl (xw 7 ad (mc ad ci r)) U.heap ∧ va_K (dC, dI) vwCl (xT ci) U)) (va_Ql (fun r9 (u : MmV) => post r9 u) (fun u t => va_P (dC, dI) vwCl (xw 7 ad (mc ad ci u)) t.heap) A) 0 0 A := by
  refine Met.ofW (cc := cX7_undo) (maxL := 2) (ret := (some .long)) (by decide) rfl ?_
  intro p e s m args below meth c s₁ B hml hv
  obtain ⟨eargs, hP, hK⟩ := hv
  have C0 : xC p s m args meth c cX7_undo 2 (some .long) RX7 wsX7_undo (dC, dI) (xT ci) := ⟨B.exec, B.bytes, hml, B.returns, B.notSynchronized, findClass_of_methodNamed B.named, atoms_spec (ws := wsX7_undo) B.pre, hK⟩
  obtain ⟨hx, hb, -, hr, hlocks, hown, hts, -⟩ := id C0
  have hS : va_S A s.heap s.heap [] := va_S.rf
  have hl := lv_entry ([.ref (ad 0)]) (n := 2) (Nat.le_of_ble_eq_true rfl)
  have ef : entryFrame m args 2 = entryFrame m ([.ref (ad 0)] : List Value).toArray 2 := by rw [eargs]
  rw [ef, lg_entry_eq]
  generalize (lg_sl ([.ref (ad 0)]) ++ List.replicate (2 - (lg_sl ([.ref (ad 0)])).length) Slot.unset).toArray = ls at hl ⊢
  have hl : lv_has ls 2 [(0, .ref (ad 0))] := hl
  have hP : va_P (dC, dI) vwCl (xw 7 ad (mc ad ci r)) s.heap := hP
  unfold PX7_undo at h
  refine lv_aload_n hx hb dX7_undo_0 rfl (lv_at hl 0 rfl) ?_
  refine xr_get (D := (dC, dI)) (C := RX7) (T := TX7) (N := 9) (v := .int (m_kp r)) hx hb hts wX7_undo_c7 hown hK hP 0 (by decide) me_M rfl 2 (by decide) wX7_undo_f30 rfl rfl dX7_undo_1 ?_
  refine lv_if_ne (tgt := 11) hx hb dX7_undo_4 (by decide) (fun c_1 => ?_) (fun c_1 => ?_)
  · have h := h.2 c_1
    refine lv_aload_n hx hb dX7_undo_11 rfl (lv_at hl 0 rfl) ?_
    refine lv_dup hx hb dX7_undo_12 rfl ?_
    refine xr_get (D := (dC, dI)) (C := RX7) (T := TX7) (N := 9) (v := .int (m_kp r)) hx hb hts wX7_undo_c7 hown hK hP 0 (by decide) me_M rfl 2 (by decide) wX7_undo_f30 rfl rfl dX7_undo_13 ?_
    refine lv_iconst (v := (1 : Int32)) hx hb dX7_undo_16 (by decide) ?_
    refine lv_isub hx hb dX7_undo_17 ?_
    obtain ⟨r_2, er_2⟩ : ∃ z : MmV, z = m_wkp r ((m_kp r) - (1 : Int32)) := ⟨_, rfl⟩
    have h := h r_2 er_2
    refine xr_put (D := (dC, dI)) (C := RX7) (T := TX7) (N := 9) (ty := .int) (v := .int ((m_kp r) - (1 : Int32))) (g := (mc ad ci r_2)) hx hb hts wX7_undo_c7 tyX7 tyX7_ok nmX7 hown hK hP hAD hS 0 (by decide) me_M rfl 2 (by decide) wX7_undo_f30 rfl rfl (by decide +kernel) rfl rfl (Nat.le_of_ble_eq_true rfl) dX7_undo_18 (by rw [er_2]; exact mg_kp) (fun H locs hP hS => ?_)
    refine lv_iconst (v := (0 : Int32)) hx hb dX7_undo_21 (by decide) ?_
    refine lv_istore_n (lv' := [(1, .int (0 : Int32)), (0, .ref (ad 0))]) hx hb dX7_undo_22 rfl hl (by decide) rfl (fun ls hl => ?_)
    obtain ⟨n_8, h⟩ := h
    exact kX7_undo_23 l dC dI ad ci A hAD      post C0  n_8 (0 : Int32) r_2 _ _ _ h hP hS (lv_sub hl [1, 0] rfl)
  · have h := h.1 c_1
    refine lv_ldc2 (v := (-2000000002 : Int64)) hx hb hown (hts _ wX7_undo_k50) dX7_undo_7 ?_
    exact W.lret (v := (-2000000002 : Int64)) hx hb hr (fun t ht hW => ⟨⟨(-2000000002 : Int64), r, rfl, h, x_ht ht hP⟩, hS.F ht⟩) hS.2.2 dX7_undo_10
abbrev rmX7_freeOne : Room := { frames := 1, cells := 0, slots := 0, locals := 22 }
def LX7_freeOne_2  (r : MmV)   (post : Int32 → Prop) : Nat → Int32 → Prop
  | 0, _ => False
  | n + 1, x1 => (((200 : Int32) ≤ x1 → post x1) ∧ (¬ (200 : Int32) ≤ x1 → (PX7_get r x1 (0 : Int32) (fun (r_2 : Int64) => ((r_2 = (1 : Int64) → ∀ x1_4 : Int32, x1_4 = x1 + 1 → LX7_freeOne_2  r post n x1_4) ∧ (¬ r_2 = (1 : Int64) → post x1))))))
set_option maxHeartbeats 4000000 in
set_option maxRecDepth 100000 in
theorem kX7_freeOne_2 {p : Program} {e : Env} {s : State} {m : MethodId} {args : Array Value} {below : List Frame} {meth : Method} {c : Code} (l : Launch) (dC : Nat → ClassId) (dI : Nat → Nat → Nat) (ad : Nat → Nat) (ci : Nat → ClassId) (A : Nat → Prop) (hAD : xw_D 7 ad A) (r : MmV)   (post : Int32 → Prop) (C0 : xC p s m args meth c cX7_freeOne 2 (some .int) RX7 wsX7_freeOne (dC, dI) (xT ci)) : ∀ (n : Nat) (x1 : Int32) (H : Heap) (locs : List Loc) (ls : Array Slot), LX7_freeOne_2  r post n x1 → va_P (dC, dI) vwCl (xw 7 ad (mc ad ci r)) H → va_S A s.heap H locs → lv_has ls 2 [(0, .ref (ad 0)), (1, .int x1)] → W p l e rmX7_freeOne s m args below meth c H locs 0 0 (MQ below (va_Qi (fun r9 (u : Unit) => post r9 ) (fun u t => va_P (dC, dI) vwCl (xw 7 ad (mc ad ci r)) t.heap) A) args s 0 0 A) (F0 m 2 ls []) := by
  obtain ⟨hx, hb, -, hr, hlocks, hown, hts, hK⟩ := id C0
  intro n
  induction n with
  | zero =>
    intro x1 H locs ls h
    exact False.elim h
  | succ n ih =>
    intro x1 H locs ls h hP hS hl
    rw [LX7_freeOne_2] at h
    refine lv_iload_n hx hb dX7_freeOne_2 rfl (lv_at hl 1 rfl) ?_
    refine lv_sipush (v := (200 : Int32)) hx hb dX7_freeOne_3 (by decide) ?_
    refine lv_icmp_ge (tgt := 26) hx hb dX7_freeOne_6 (by decide) (fun c_1 => ?_) (fun c_1 => ?_)
    · have h := h.1 c_1
      refine lv_iload_n hx hb dX7_freeOne_26 rfl (lv_at hl 1 rfl) ?_
      exact W.iret (v := x1) hx hb hr (fun t ht hW => ⟨⟨x1, (), rfl, h, x_ht ht hP⟩, hS.F ht⟩) hS.2.2 dX7_freeOne_27
    · have h := h.2 c_1
      refine lv_aload_n hx hb dX7_freeOne_9 rfl (lv_at hl 0 rfl) ?_
      refine lv_iload_n hx hb dX7_freeOne_10 rfl (lv_at hl 1 rfl) ?_
      refine lv_iconst (v := (0 : Int32)) hx hb dX7_freeOne_11 (by decide) ?_
      refine va_calll (va_runV (As := [.int x1, .int (0 : Int32)]) (rest := []) ⟨hx, hb, C0.2.2.1, hown, hts⟩ (qX7_get l dC dI ad ci A hAD r x1 (0 : Int32) _ h) (cwV 2 hts gX7_freeOne_X7_get rfl rfl rfl (by decide +kernel) ⟨Nat.le_of_ble_eq_true rfl, Nat.le_of_ble_eq_true rfl⟩) ⟨xr_blind, xr_recv (r := (RX7, TX7, 9)) hK hP 0 (by decide) me_M rfl, xr_pre hP hK⟩ rfl rfl hl.1 rfl (lv_room (Nat.le_of_ble_eq_true rfl)) dX7_freeOne_12 ⟨Nat.le_of_ble_eq_true rfl, Nat.le_of_ble_eq_true rfl⟩) hS (fun _ _ h => h) (fun _ h => h) (fun r_2 _ t9 H locs ht hvm h hB _ _ hS => ?_)
      refine W.cs (cells' := 0) (slots' := 0) rfl rfl ?_
      have hP := x_th ht hB
      have hP : va_P (dC, dI) vwCl (xw 7 ad (mc ad ci r)) H := hP
      refine lv_lconst (v := (1 : Int64)) hx hb dX7_freeOne_15 (by decide) ?_
      refine xr_if_lcmp_ne (tgt := 26) hx hb dX7_freeOne_16 dX7_freeOne_17 (by decide) (fun c_3 => ?_) (fun c_3 => ?_)
      · have h := h.2 c_3
        refine lv_iload_n hx hb dX7_freeOne_26 rfl (lv_at hl 1 rfl) ?_
        exact W.iret (v := x1) hx hb hr (fun t ht hW => ⟨⟨x1, (), rfl, h, x_ht ht hP⟩, hS.F ht⟩) hS.2.2 dX7_freeOne_27
      · have h := h.1 c_3
        obtain ⟨x1_4, ex1_4⟩ : ∃ z : Int32, z = x1 + 1 := ⟨_, rfl⟩
        have h := h x1_4 ex1_4
        refine lv_iinc (v := x1_4) (lv' := [(1, .int x1_4), (0, .ref (ad 0))]) hx hb dX7_freeOne_20 hl (k := 1) rfl (by rw [ex1_4]; rfl) (by decide) rfl (fun ls hl => ?_)
        refine lv_goto (tgt := 2) hx hb dX7_freeOne_23 (by decide) ?_
        exact ih x1_4 _ _ _ h hP hS (lv_sub hl [1, 0] rfl)
def PX7_freeOne  (r : MmV)  (post : Int32 → Prop) : Prop :=
  (∃ n_5 : Nat, LX7_freeOne_2  r  post n_5 (0 : Int32))
set_option maxHeartbeats 4000000 in
set_option maxRecDepth 100000 in
theorem qX7_freeOne (l : Launch) (dC : Nat → ClassId) (dI : Nat → Nat → Nat) (ad : Nat → Nat) (ci : Nat → ClassId) (A : Nat → Prop) (hAD : xw_D 7 ad A) (r : MmV)  (post : Int32 → Prop) (h : PX7_freeOne r post) : Met l yX7_freeOne wsX7_freeOne rmX7_freeOne (va_Pc [.ref (ad 0)] (fun U => va_P (dC, dI) vwCl (xw 7 ad (mc ad ci r)) U.heap ∧ va_K (dC, dI) vwCl (xT ci) U)) (va_Qi (fun r9 (u : Unit) => post r9 ) (fun u t => va_P (dC, dI) vwCl (xw 7 ad (mc ad ci r)) t.heap) A) 0 0 A := by
  refine Met.ofW (cc := cX7_freeOne) (maxL := 2) (ret := (some .int)) (by decide) rfl ?_
  intro p e s m args below meth c s₁ B hml hv
  obtain ⟨eargs, hP, hK⟩ := hv
  have C0 : xC p s m args meth c cX7_freeOne 2 (some .int) RX7 wsX7_freeOne (dC, dI) (xT ci) := ⟨B.exec, B.bytes, hml, B.returns, B.notSynchronized, findClass_of_methodNamed B.named, atoms_spec (ws := wsX7_freeOne) B.pre, hK⟩
  obtain ⟨hx, hb, -, hr, hlocks, hown, hts, -⟩ := id C0
  have hS : va_S A s.heap s.heap [] := va_S.rf
  have hl := lv_entry ([.ref (ad 0)]) (n := 2) (Nat.le_of_ble_eq_true rfl)
  have ef : entryFrame m args 2 = entryFrame m ([.ref (ad 0)] : List Value).toArray 2 := by rw [eargs]
  rw [ef, lg_entry_eq]
  generalize (lg_sl ([.ref (ad 0)]) ++ List.replicate (2 - (lg_sl ([.ref (ad 0)])).length) Slot.unset).toArray = ls at hl ⊢
  have hl : lv_has ls 2 [(0, .ref (ad 0))] := hl
  have hP : va_P (dC, dI) vwCl (xw 7 ad (mc ad ci r)) s.heap := hP
  unfold PX7_freeOne at h
  refine lv_iconst (v := (0 : Int32)) hx hb dX7_freeOne_0 (by decide) ?_
  refine lv_istore_n (lv' := [(1, .int (0 : Int32)), (0, .ref (ad 0))]) hx hb dX7_freeOne_1 rfl hl (by decide) rfl (fun ls hl => ?_)
  obtain ⟨n_5, h⟩ := h
  exact kX7_freeOne_2 l dC dI ad ci A hAD r     post C0  n_5 (0 : Int32) _ _ _ h hP hS (lv_sub hl [1, 0] rfl)
abbrev rmX7_line : Room := { frames := 1, cells := 0, slots := 0, locals := 24 }
theorem wX7_line_c7 : ∀ w ∈ u_ws RX7 TX7 9, w ∈ wsX7_line := by decide +kernel
theorem wX7_line_f7 : Cond.fieldLink RX7 7 "DueWheelsModel" "s" "[J" ∈ wsX7_line := by decide +kernel
def PX7_line  (r : MmV) (x1 : Int32) (post : MmV → Prop) : Prop :=
  (PX7_put r x1 (11 : Int32) (m_s r 3701) (fun (r_1 : MmV) => (∀ r_2 : MmV, r_2 = m_ws r_1 (vp_updL (m_s r_1) 3701 ((m_s r_1 3701) + (1 : Int64))) → post r_2)))
set_option maxHeartbeats 4000000 in
set_option maxRecDepth 100000 in
theorem qX7_line (l : Launch) (dC : Nat → ClassId) (dI : Nat → Nat → Nat) (ad : Nat → Nat) (ci : Nat → ClassId) (A : Nat → Prop) (hAD : xw_D 7 ad A) (r : MmV) (x1 : Int32) (post : MmV → Prop) (h : PX7_line r x1 post) : Met l yX7_line wsX7_line rmX7_line (va_Pc [.ref (ad 0), .int x1] (fun U => va_P (dC, dI) vwCl (xw 7 ad (mc ad ci r)) U.heap ∧ va_K (dC, dI) vwCl (xT ci) U)) (va_Qv (fun u : MmV => post u) (fun u t => va_P (dC, dI) vwCl (xw 7 ad (mc ad ci u)) t.heap) A) 0 0 A := by
  refine Met.ofW (cc := cX7_line) (maxL := 2) (ret := none) (by decide) rfl ?_
  intro p e s m args below meth c s₁ B hml hv
  obtain ⟨eargs, hP, hK⟩ := hv
  have C0 : xC p s m args meth c cX7_line 2 none RX7 wsX7_line (dC, dI) (xT ci) := ⟨B.exec, B.bytes, hml, B.returns, B.notSynchronized, findClass_of_methodNamed B.named, atoms_spec (ws := wsX7_line) B.pre, hK⟩
  obtain ⟨hx, hb, -, hr, hlocks, hown, hts, -⟩ := id C0
  have hS : va_S A s.heap s.heap [] := va_S.rf
  have hl := lv_entry ([.ref (ad 0), .int x1]) (n := 2) (Nat.le_of_ble_eq_true rfl)
  have ef : entryFrame m args 2 = entryFrame m ([.ref (ad 0), .int x1] : List Value).toArray 2 := by rw [eargs]
  rw [ef, lg_entry_eq]
  generalize (lg_sl ([.ref (ad 0), .int x1]) ++ List.replicate (2 - (lg_sl ([.ref (ad 0), .int x1])).length) Slot.unset).toArray = ls at hl ⊢
  have hl : lv_has ls 2 [(0, .ref (ad 0)), (1, .int x1)] := hl
  have hP : va_P (dC, dI) vwCl (xw 7 ad (mc ad ci r)) s.heap := hP
  unfold PX7_line at h
  refine lv_aload_n hx hb dX7_line_0 rfl (lv_at hl 0 rfl) ?_
  refine lv_iload_n hx hb dX7_line_1 rfl (lv_at hl 1 rfl) ?_
  refine lv_bipush (v := (11 : Int32)) hx hb dX7_line_2 (by decide) ?_
  refine lv_aload_n hx hb dX7_line_4 rfl (lv_at hl 0 rfl) ?_
  refine xr_get (D := (dC, dI)) (C := RX7) (T := TX7) (N := 9) (v := .ref (ad 1)) hx hb hts wX7_line_c7 hown hK hP 0 (by decide) me_M rfl 0 (by decide) wX7_line_f7 rfl rfl dX7_line_5 ?_
  refine lv_sipush (v := (3701 : Int32)) hx hb dX7_line_8 (by decide) ?_
  refine xr_lald (k := 3701) hx hb hK hP 1 1 (by decide) me_s rfl rfl (x_in _ _ (by decide)) dX7_line_11 ?_
  refine va_callv (va_runV (As := [.int x1, .int (11 : Int32), .long (m_s r 3701)]) (rest := []) ⟨hx, hb, C0.2.2.1, hown, hts⟩ (qX7_put l dC dI ad ci A hAD r x1 (11 : Int32) (m_s r 3701) _ h) (cwV 3 hts gX7_line_X7_put rfl rfl rfl (by decide +kernel) ⟨Nat.le_of_ble_eq_true rfl, Nat.le_of_ble_eq_true rfl⟩) ⟨xr_blind, xr_recv (r := (RX7, TX7, 9)) hK hP 0 (by decide) me_M rfl, xr_pre hP hK⟩ rfl rfl hl.1 rfl (lv_room (Nat.le_of_ble_eq_true rfl)) dX7_line_12 ⟨Nat.le_of_ble_eq_true rfl, Nat.le_of_ble_eq_true rfl⟩) hS (fun _ _ h => h) (fun _ h => h) (fun r_1 t9 H locs ht hvm h hB _ _ hS => ?_)
  refine W.cs (cells' := 0) (slots' := 0) rfl rfl ?_
  have hP := x_th ht hB
  have hP : va_P (dC, dI) vwCl (xw 7 ad (mc ad ci r_1)) H := hP
  refine lv_aload_n hx hb dX7_line_15 rfl (lv_at hl 0 rfl) ?_
  refine xr_get (D := (dC, dI)) (C := RX7) (T := TX7) (N := 9) (v := .ref (ad 1)) hx hb hts wX7_line_c7 hown hK hP 0 (by decide) me_M rfl 0 (by decide) wX7_line_f7 rfl rfl dX7_line_16 ?_
  refine lv_sipush (v := (3701 : Int32)) hx hb dX7_line_19 (by decide) ?_
  refine lv_dup2_11 hx hb dX7_line_22 rfl rfl ?_
  refine xr_lald (k := 3701) hx hb hK hP 1 1 (by decide) me_s rfl rfl (x_in _ _ (by decide)) dX7_line_23 ?_
  refine lv_lconst (v := (1 : Int64)) hx hb dX7_line_24 (by decide) ?_
  refine lv_ladd hx hb dX7_line_25 ?_
  obtain ⟨r_2, er_2⟩ : ∃ z : MmV, z = m_ws r_1 (vp_updL (m_s r_1) 3701 ((m_s r_1 3701) + (1 : Int64))) := ⟨_, rfl⟩
  have h := h r_2 er_2
  refine xr_last (k := 3701) (x := ((m_s r_1 3701) + (1 : Int64))) (g := (mc ad ci r_2)) hx hb hK hP hAD hS 1 1 (by decide) me_s rfl rfl (x_in _ _ (by decide)) dX7_line_26 (by rw [er_2]; exact mg_s) (fun H locs hP hS => ?_)
  exact W.vret hx hb hr (fun t ht hW => ⟨⟨r_2, rfl, h, x_ht ht hP⟩, hS.F ht⟩) hS.2.2 dX7_line_27
abbrev rmX7_tick : Room := { frames := 1, cells := 0, slots := 0, locals := 24 }
def PX7_tick  (r : MmV) (x1 : Int32) (x2 : Int64) (post : MmV → Prop) : Prop :=
  (PX7_put r x1 (3 : Int32) x2 (fun (r_1 : MmV) => (PX7_put r_1 x1 (12 : Int32) (0 : Int64) (fun (r_2 : MmV) => post r_2))))
set_option maxHeartbeats 4000000 in
set_option maxRecDepth 100000 in
theorem qX7_tick (l : Launch) (dC : Nat → ClassId) (dI : Nat → Nat → Nat) (ad : Nat → Nat) (ci : Nat → ClassId) (A : Nat → Prop) (hAD : xw_D 7 ad A) (r : MmV) (x1 : Int32) (x2 : Int64) (post : MmV → Prop) (h : PX7_tick r x1 x2 post) : Met l yX7_tick wsX7_tick rmX7_tick (va_Pc [.ref (ad 0), .int x1, .long x2] (fun U => va_P (dC, dI) vwCl (xw 7 ad (mc ad ci r)) U.heap ∧ va_K (dC, dI) vwCl (xT ci) U)) (va_Qv (fun u : MmV => post u) (fun u t => va_P (dC, dI) vwCl (xw 7 ad (mc ad ci u)) t.heap) A) 0 0 A := by
  refine Met.ofW (cc := cX7_tick) (maxL := 4) (ret := none) (by decide) rfl ?_
  intro p e s m args below meth c s₁ B hml hv
  obtain ⟨eargs, hP, hK⟩ := hv
  have C0 : xC p s m args meth c cX7_tick 4 none RX7 wsX7_tick (dC, dI) (xT ci) := ⟨B.exec, B.bytes, hml, B.returns, B.notSynchronized, findClass_of_methodNamed B.named, atoms_spec (ws := wsX7_tick) B.pre, hK⟩
  obtain ⟨hx, hb, -, hr, hlocks, hown, hts, -⟩ := id C0
  have hS : va_S A s.heap s.heap [] := va_S.rf
  have hl := lv_entry ([.ref (ad 0), .int x1, .long x2]) (n := 4) (Nat.le_of_ble_eq_true rfl)
  have ef : entryFrame m args 4 = entryFrame m ([.ref (ad 0), .int x1, .long x2] : List Value).toArray 4 := by rw [eargs]
  rw [ef, lg_entry_eq]
  generalize (lg_sl ([.ref (ad 0), .int x1, .long x2]) ++ List.replicate (4 - (lg_sl ([.ref (ad 0), .int x1, .long x2])).length) Slot.unset).toArray = ls at hl ⊢
  have hl : lv_has ls 4 [(0, .ref (ad 0)), (1, .int x1), (2, .long x2)] := hl
  have hP : va_P (dC, dI) vwCl (xw 7 ad (mc ad ci r)) s.heap := hP
  unfold PX7_tick at h
  refine lv_aload_n hx hb dX7_tick_0 rfl (lv_at hl 0 rfl) ?_
  refine lv_iload_n hx hb dX7_tick_1 rfl (lv_at hl 1 rfl) ?_
  refine lv_iconst (v := (3 : Int32)) hx hb dX7_tick_2 (by decide) ?_
  refine lv_lload_n hx hb dX7_tick_3 rfl (lv_at hl 2 rfl) ?_
  refine va_callv (va_runV (As := [.int x1, .int (3 : Int32), .long x2]) (rest := []) ⟨hx, hb, C0.2.2.1, hown, hts⟩ (qX7_put l dC dI ad ci A hAD r x1 (3 : Int32) x2 _ h) (cwV 3 hts gX7_tick_X7_put rfl rfl rfl (by decide +kernel) ⟨Nat.le_of_ble_eq_true rfl, Nat.le_of_ble_eq_true rfl⟩) ⟨xr_blind, xr_recv (r := (RX7, TX7, 9)) hK hP 0 (by decide) me_M rfl, xr_pre hP hK⟩ rfl rfl hl.1 rfl (lv_room (Nat.le_of_ble_eq_true rfl)) dX7_tick_4 ⟨Nat.le_of_ble_eq_true rfl, Nat.le_of_ble_eq_true rfl⟩) hS (fun _ _ h => h) (fun _ h => h) (fun r_1 t9 H locs ht hvm h hB _ _ hS => ?_)
  refine W.cs (cells' := 0) (slots' := 0) rfl rfl ?_
  have hP := x_th ht hB
  have hP : va_P (dC, dI) vwCl (xw 7 ad (mc ad ci r_1)) H := hP
  refine lv_aload_n hx hb dX7_tick_7 rfl (lv_at hl 0 rfl) ?_
  refine lv_iload_n hx hb dX7_tick_8 rfl (lv_at hl 1 rfl) ?_
  refine lv_bipush (v := (12 : Int32)) hx hb dX7_tick_9 (by decide) ?_
  refine lv_lconst (v := (0 : Int64)) hx hb dX7_tick_11 (by decide) ?_
  refine va_callv (va_runV (As := [.int x1, .int (12 : Int32), .long (0 : Int64)]) (rest := []) ⟨hx, hb, C0.2.2.1, hown, hts⟩ (qX7_put l dC dI ad ci A hAD r_1 x1 (12 : Int32) (0 : Int64) _ h) (cwV 3 hts gX7_tick_X7_put rfl rfl rfl (by decide +kernel) ⟨Nat.le_of_ble_eq_true rfl, Nat.le_of_ble_eq_true rfl⟩) ⟨xr_blind, xr_recv (r := (RX7, TX7, 9)) hK hP 0 (by decide) me_M rfl, xr_pre hP hK⟩ rfl rfl hl.1 rfl (lv_room (Nat.le_of_ble_eq_true rfl)) dX7_tick_12 ⟨Nat.le_of_ble_eq_true rfl, Nat.le_of_ble_eq_true rfl⟩) hS (fun _ _ h => h) (fun _ h => h) (fun r_2 t9 H locs ht hvm h hB _ _ hS => ?_)
  refine W.cs (cells' := 0) (slots' := 0) rfl rfl ?_
  have hP := x_th ht hB
  have hP : va_P (dC, dI) vwCl (xw 7 ad (mc ad ci r_2)) H := hP
  exact W.vret hx hb hr (fun t ht hW => ⟨⟨r_2, rfl, h, x_ht ht hP⟩, hS.F ht⟩) hS.2.2 dX7_tick_15
abbrev rmX7_set : Room := { frames := 2, cells := 0, slots := 0, locals := 45 }
theorem wX7_set_k48 : Cond.constantLong RX7 48 (-2000000005) ∈ wsX7_set := by decide +kernel
def PX7_set  (r : MmV) (x1 : Int32) (x2 : Int32) (post : Int32 → MmV → Prop) : Prop :=
  (PX7_freeOne r (fun (r_1 : Int32) => (PX7_keep r (fun (r_2 : MmV) => (PX7_put r_2 r_1 (0 : Int32) (1 : Int64) (fun (r_3 : MmV) => (PX7_put r_3 r_1 (1 : Int32) (x1.toInt64) (fun (r_4 : MmV) => (PX7_put r_4 r_1 (2 : Int32) (x2.toInt64) (fun (r_5 : MmV) => (PX7_put r_5 r_1 (3 : Int32) (-2000000005 : Int64) (fun (r_6 : MmV) => (PX7_put r_6 r_1 (4 : Int32) (-2000000005 : Int64) (fun (r_7 : MmV) => (PX7_put r_7 r_1 (5 : Int32) (-2000000005 : Int64) (fun (r_8 : MmV) => (PX7_put r_8 r_1 (6 : Int32) (-2000000005 : Int64) (fun (r_9 : MmV) => (PX7_put r_9 r_1 (7 : Int32) (-2000000005 : Int64) (fun (r_10 : MmV) => (PX7_put r_10 r_1 (8 : Int32) (0 : Int64) (fun (r_11 : MmV) => (PX7_put r_11 r_1 (9 : Int32) (0 : Int64) (fun (r_12 : MmV) => (PX7_put r_12 r_1 (10 : Int32) (-2000000005 : Int64) (fun (r_13 : MmV) => (PX7_put r_13 r_1 (12 : Int32) (0 : Int64) (fun (r_14 : MmV) => (PX7_line r_14 r_1 (fun (r_15 : MmV) => post r_1 r_15))))))))))))))))))))))))))))))
set_option maxHeartbeats 4000000 in
set_option maxRecDepth 100000 in
theorem qX7_set (l : Launch) (dC : Nat → ClassId) (dI : Nat → Nat → Nat) (ad : Nat → Nat) (ci : Nat → ClassId) (A : Nat → Prop) (hAD : xw_D 7 ad A) (r : MmV) (x1 : Int32) (x2 : Int32) (post : Int32 → MmV → Prop) (h : PX7_set r x1 x2 post) : Met l yX7_set wsX7_set rmX7_set (va_Pc [.ref (ad 0), .int x1, .int x2] (fun U => va_P (dC, dI) vwCl (xw 7 ad (mc ad ci r)) U.heap ∧ va_K (dC, dI) vwCl (xT ci) U)) (va_Qi (fun r9 (u : MmV) => post r9 u) (fun u t => va_P (dC, dI) vwCl (xw 7 ad (mc ad ci u)) t.heap) A) 0 0 A := by
  refine Met.ofW (cc := cX7_set) (maxL := 4) (ret := (some .int)) (by decide) rfl ?_
  intro p e s m args below meth c s₁ B hml hv
  obtain ⟨eargs, hP, hK⟩ := hv
  have C0 : xC p s m args meth c cX7_set 4 (some .int) RX7 wsX7_set (dC, dI) (xT ci) := ⟨B.exec, B.bytes, hml, B.returns, B.notSynchronized, findClass_of_methodNamed B.named, atoms_spec (ws := wsX7_set) B.pre, hK⟩
  obtain ⟨hx, hb, -, hr, hlocks, hown, hts, -⟩ := id C0
  have hS : va_S A s.heap s.heap [] := va_S.rf
  have hl := lv_entry ([.ref (ad 0), .int x1, .int x2]) (n := 4) (Nat.le_of_ble_eq_true rfl)
  have ef : entryFrame m args 4 = entryFrame m ([.ref (ad 0), .int x1, .int x2] : List Value).toArray 4 := by rw [eargs]
  rw [ef, lg_entry_eq]
  generalize (lg_sl ([.ref (ad 0), .int x1, .int x2]) ++ List.replicate (4 - (lg_sl ([.ref (ad 0), .int x1, .int x2])).length) Slot.unset).toArray = ls at hl ⊢
  have hl : lv_has ls 4 [(0, .ref (ad 0)), (1, .int x1), (2, .int x2)] := hl
  have hP : va_P (dC, dI) vwCl (xw 7 ad (mc ad ci r)) s.heap := hP
  unfold PX7_set at h
  refine lv_aload_n hx hb dX7_set_0 rfl (lv_at hl 0 rfl) ?_
  refine va_calli (va_runV (As := []) (rest := []) ⟨hx, hb, C0.2.2.1, hown, hts⟩ (qX7_freeOne l dC dI ad ci A hAD r  _ h) (cwV 0 hts gX7_set_X7_freeOne rfl rfl rfl (by decide +kernel) ⟨Nat.le_of_ble_eq_true rfl, Nat.le_of_ble_eq_true rfl⟩) ⟨xr_blind, xr_recv (r := (RX7, TX7, 9)) hK hP 0 (by decide) me_M rfl, xr_pre hP hK⟩ rfl rfl hl.1 rfl (lv_room (Nat.le_of_ble_eq_true rfl)) dX7_set_1 ⟨Nat.le_of_ble_eq_true rfl, Nat.le_of_ble_eq_true rfl⟩) hS (fun _ _ h => h) (fun _ h => h) (fun r_1 _ t9 H locs ht hvm h hB _ _ hS => ?_)
  refine W.cs (cells' := 0) (slots' := 0) rfl rfl ?_
  have hP := x_th ht hB
  have hP : va_P (dC, dI) vwCl (xw 7 ad (mc ad ci r)) H := hP
  refine lv_istore_n (lv' := [(3, .int r_1), (0, .ref (ad 0)), (1, .int x1), (2, .int x2)]) hx hb dX7_set_4 rfl hl (by decide) rfl (fun ls hl => ?_)
  refine lv_aload_n hx hb dX7_set_5 rfl (lv_at hl 1 rfl) ?_
  refine va_callv (va_runV (As := []) (rest := []) ⟨hx, hb, C0.2.2.1, hown, hts⟩ (qX7_keep l dC dI ad ci A hAD r  _ h) (cwV 0 hts gX7_set_X7_keep rfl rfl rfl (by decide +kernel) ⟨Nat.le_of_ble_eq_true rfl, Nat.le_of_ble_eq_true rfl⟩) ⟨xr_blind, xr_recv (r := (RX7, TX7, 9)) hK hP 0 (by decide) me_M rfl, xr_pre hP hK⟩ rfl rfl hl.1 rfl (lv_room (Nat.le_of_ble_eq_true rfl)) dX7_set_6 ⟨Nat.le_of_ble_eq_true rfl, Nat.le_of_ble_eq_true rfl⟩) hS (fun _ _ h => h) (fun _ h => h) (fun r_2 t9 H locs ht hvm h hB _ _ hS => ?_)
  refine W.cs (cells' := 0) (slots' := 0) rfl rfl ?_
  have hP := x_th ht hB
  have hP : va_P (dC, dI) vwCl (xw 7 ad (mc ad ci r_2)) H := hP
  refine lv_aload_n hx hb dX7_set_9 rfl (lv_at hl 1 rfl) ?_
  refine lv_iload_n hx hb dX7_set_10 rfl (lv_at hl 0 rfl) ?_
  refine lv_iconst (v := (0 : Int32)) hx hb dX7_set_11 (by decide) ?_
  refine lv_lconst (v := (1 : Int64)) hx hb dX7_set_12 (by decide) ?_
  refine va_callv (va_runV (As := [.int r_1, .int (0 : Int32), .long (1 : Int64)]) (rest := []) ⟨hx, hb, C0.2.2.1, hown, hts⟩ (qX7_put l dC dI ad ci A hAD r_2 r_1 (0 : Int32) (1 : Int64) _ h) (cwV 3 hts gX7_set_X7_put rfl rfl rfl (by decide +kernel) ⟨Nat.le_of_ble_eq_true rfl, Nat.le_of_ble_eq_true rfl⟩) ⟨xr_blind, xr_recv (r := (RX7, TX7, 9)) hK hP 0 (by decide) me_M rfl, xr_pre hP hK⟩ rfl rfl hl.1 rfl (lv_room (Nat.le_of_ble_eq_true rfl)) dX7_set_13 ⟨Nat.le_of_ble_eq_true rfl, Nat.le_of_ble_eq_true rfl⟩) hS (fun _ _ h => h) (fun _ h => h) (fun r_3 t9 H locs ht hvm h hB _ _ hS => ?_)
  refine W.cs (cells' := 0) (slots' := 0) rfl rfl ?_
  have hP := x_th ht hB
  have hP : va_P (dC, dI) vwCl (xw 7 ad (mc ad ci r_3)) H := hP
  refine lv_aload_n hx hb dX7_set_16 rfl (lv_at hl 1 rfl) ?_
  refine lv_iload_n hx hb dX7_set_17 rfl (lv_at hl 0 rfl) ?_
  refine lv_iconst (v := (1 : Int32)) hx hb dX7_set_18 (by decide) ?_
  refine lv_iload_n hx hb dX7_set_19 rfl (lv_at hl 2 rfl) ?_
  refine lv_i2l hx hb dX7_set_20 rfl ?_
  refine va_callv (va_runV (As := [.int r_1, .int (1 : Int32), .long (x1.toInt64)]) (rest := []) ⟨hx, hb, C0.2.2.1, hown, hts⟩ (qX7_put l dC dI ad ci A hAD r_3 r_1 (1 : Int32) (x1.toInt64) _ h) (cwV 3 hts gX7_set_X7_put rfl rfl rfl (by decide +kernel) ⟨Nat.le_of_ble_eq_true rfl, Nat.le_of_ble_eq_true rfl⟩) ⟨xr_blind, xr_recv (r := (RX7, TX7, 9)) hK hP 0 (by decide) me_M rfl, xr_pre hP hK⟩ rfl rfl hl.1 rfl (lv_room (Nat.le_of_ble_eq_true rfl)) dX7_set_21 ⟨Nat.le_of_ble_eq_true rfl, Nat.le_of_ble_eq_true rfl⟩) hS (fun _ _ h => h) (fun _ h => h) (fun r_4 t9 H locs ht hvm h hB _ _ hS => ?_)
  refine W.cs (cells' := 0) (slots' := 0) rfl rfl ?_
  have hP := x_th ht hB
  have hP : va_P (dC, dI) vwCl (xw 7 ad (mc ad ci r_4)) H := hP
  refine lv_aload_n hx hb dX7_set_24 rfl (lv_at hl 1 rfl) ?_
  refine lv_iload_n hx hb dX7_set_25 rfl (lv_at hl 0 rfl) ?_
  refine lv_iconst (v := (2 : Int32)) hx hb dX7_set_26 (by decide) ?_
  refine lv_iload_n hx hb dX7_set_27 rfl (lv_at hl 3 rfl) ?_
  refine lv_i2l hx hb dX7_set_28 rfl ?_
  refine va_callv (va_runV (As := [.int r_1, .int (2 : Int32), .long (x2.toInt64)]) (rest := []) ⟨hx, hb, C0.2.2.1, hown, hts⟩ (qX7_put l dC dI ad ci A hAD r_4 r_1 (2 : Int32) (x2.toInt64) _ h) (cwV 3 hts gX7_set_X7_put rfl rfl rfl (by decide +kernel) ⟨Nat.le_of_ble_eq_true rfl, Nat.le_of_ble_eq_true rfl⟩) ⟨xr_blind, xr_recv (r := (RX7, TX7, 9)) hK hP 0 (by decide) me_M rfl, xr_pre hP hK⟩ rfl rfl hl.1 rfl (lv_room (Nat.le_of_ble_eq_true rfl)) dX7_set_29 ⟨Nat.le_of_ble_eq_true rfl, Nat.le_of_ble_eq_true rfl⟩) hS (fun _ _ h => h) (fun _ h => h) (fun r_5 t9 H locs ht hvm h hB _ _ hS => ?_)
  refine W.cs (cells' := 0) (slots' := 0) rfl rfl ?_
  have hP := x_th ht hB
  have hP : va_P (dC, dI) vwCl (xw 7 ad (mc ad ci r_5)) H := hP
  refine lv_aload_n hx hb dX7_set_32 rfl (lv_at hl 1 rfl) ?_
  refine lv_iload_n hx hb dX7_set_33 rfl (lv_at hl 0 rfl) ?_
  refine lv_iconst (v := (3 : Int32)) hx hb dX7_set_34 (by decide) ?_
  refine lv_ldc2 (v := (-2000000005 : Int64)) hx hb hown (hts _ wX7_set_k48) dX7_set_35 ?_
  refine va_callv (va_runV (As := [.int r_1, .int (3 : Int32), .long (-2000000005 : Int64)]) (rest := []) ⟨hx, hb, C0.2.2.1, hown, hts⟩ (qX7_put l dC dI ad ci A hAD r_5 r_1 (3 : Int32) (-2000000005 : Int64) _ h) (cwV 3 hts gX7_set_X7_put rfl rfl rfl (by decide +kernel) ⟨Nat.le_of_ble_eq_true rfl, Nat.le_of_ble_eq_true rfl⟩) ⟨xr_blind, xr_recv (r := (RX7, TX7, 9)) hK hP 0 (by decide) me_M rfl, xr_pre hP hK⟩ rfl rfl hl.1 rfl (lv_room (Nat.le_of_ble_eq_true rfl)) dX7_set_38 ⟨Nat.le_of_ble_eq_true rfl, Nat.le_of_ble_eq_true rfl⟩) hS (fun _ _ h => h) (fun _ h => h) (fun r_6 t9 H locs ht hvm h hB _ _ hS => ?_)
  refine W.cs (cells' := 0) (slots' := 0) rfl rfl ?_
  have hP := x_th ht hB
  have hP : va_P (dC, dI) vwCl (xw 7 ad (mc ad ci r_6)) H := hP
  refine lv_aload_n hx hb dX7_set_41 rfl (lv_at hl 1 rfl) ?_
  refine lv_iload_n hx hb dX7_set_42 rfl (lv_at hl 0 rfl) ?_
  refine lv_iconst (v := (4 : Int32)) hx hb dX7_set_43 (by decide) ?_
  refine lv_ldc2 (v := (-2000000005 : Int64)) hx hb hown (hts _ wX7_set_k48) dX7_set_44 ?_
  refine va_callv (va_runV (As := [.int r_1, .int (4 : Int32), .long (-2000000005 : Int64)]) (rest := []) ⟨hx, hb, C0.2.2.1, hown, hts⟩ (qX7_put l dC dI ad ci A hAD r_6 r_1 (4 : Int32) (-2000000005 : Int64) _ h) (cwV 3 hts gX7_set_X7_put rfl rfl rfl (by decide +kernel) ⟨Nat.le_of_ble_eq_true rfl, Nat.le_of_ble_eq_true rfl⟩) ⟨xr_blind, xr_recv (r := (RX7, TX7, 9)) hK hP 0 (by decide) me_M rfl, xr_pre hP hK⟩ rfl rfl hl.1 rfl (lv_room (Nat.le_of_ble_eq_true rfl)) dX7_set_47 ⟨Nat.le_of_ble_eq_true rfl, Nat.le_of_ble_eq_true rfl⟩) hS (fun _ _ h => h) (fun _ h => h) (fun r_7 t9 H locs ht hvm h hB _ _ hS => ?_)
  refine W.cs (cells' := 0) (slots' := 0) rfl rfl ?_
  have hP := x_th ht hB
  have hP : va_P (dC, dI) vwCl (xw 7 ad (mc ad ci r_7)) H := hP
  refine lv_aload_n hx hb dX7_set_50 rfl (lv_at hl 1 rfl) ?_
  refine lv_iload_n hx hb dX7_set_51 rfl (lv_at hl 0 rfl) ?_
  refine lv_iconst (v := (5 : Int32)) hx hb dX7_set_52 (by decide) ?_
  refine lv_ldc2 (v := (-2000000005 : Int64)) hx hb hown (hts _ wX7_set_k48) dX7_set_53 ?_
  refine va_callv (va_runV (As := [.int r_1, .int (5 : Int32), .long (-2000000005 : Int64)]) (rest := []) ⟨hx, hb, C0.2.2.1, hown, hts⟩ (qX7_put l dC dI ad ci A hAD r_7 r_1 (5 : Int32) (-2000000005 : Int64) _ h) (cwV 3 hts gX7_set_X7_put rfl rfl rfl (by decide +kernel) ⟨Nat.le_of_ble_eq_true rfl, Nat.le_of_ble_eq_true rfl⟩) ⟨xr_blind, xr_recv (r := (RX7, TX7, 9)) hK hP 0 (by decide) me_M rfl, xr_pre hP hK⟩ rfl rfl hl.1 rfl (lv_room (Nat.le_of_ble_eq_true rfl)) dX7_set_56 ⟨Nat.le_of_ble_eq_true rfl, Nat.le_of_ble_eq_true rfl⟩) hS (fun _ _ h => h) (fun _ h => h) (fun r_8 t9 H locs ht hvm h hB _ _ hS => ?_)
  refine W.cs (cells' := 0) (slots' := 0) rfl rfl ?_
  have hP := x_th ht hB
  have hP : va_P (dC, dI) vwCl (xw 7 ad (mc ad ci r_8)) H := hP
  refine lv_aload_n hx hb dX7_set_59 rfl (lv_at hl 1 rfl) ?_
  refine lv_iload_n hx hb dX7_set_60 rfl (lv_at hl 0 rfl) ?_
  refine lv_bipush (v := (6 : Int32)) hx hb dX7_set_61 (by decide) ?_
  refine lv_ldc2 (v := (-2000000005 : Int64)) hx hb hown (hts _ wX7_set_k48) dX7_set_63 ?_
  refine va_callv (va_runV (As := [.int r_1, .int (6 : Int32), .long (-2000000005 : Int64)]) (rest := []) ⟨hx, hb, C0.2.2.1, hown, hts⟩ (qX7_put l dC dI ad ci A hAD r_8 r_1 (6 : Int32) (-2000000005 : Int64) _ h) (cwV 3 hts gX7_set_X7_put rfl rfl rfl (by decide +kernel) ⟨Nat.le_of_ble_eq_true rfl, Nat.le_of_ble_eq_true rfl⟩) ⟨xr_blind, xr_recv (r := (RX7, TX7, 9)) hK hP 0 (by decide) me_M rfl, xr_pre hP hK⟩ rfl rfl hl.1 rfl (lv_room (Nat.le_of_ble_eq_true rfl)) dX7_set_66 ⟨Nat.le_of_ble_eq_true rfl, Nat.le_of_ble_eq_true rfl⟩) hS (fun _ _ h => h) (fun _ h => h) (fun r_9 t9 H locs ht hvm h hB _ _ hS => ?_)
  refine W.cs (cells' := 0) (slots' := 0) rfl rfl ?_
  have hP := x_th ht hB
  have hP : va_P (dC, dI) vwCl (xw 7 ad (mc ad ci r_9)) H := hP
  refine lv_aload_n hx hb dX7_set_69 rfl (lv_at hl 1 rfl) ?_
  refine lv_iload_n hx hb dX7_set_70 rfl (lv_at hl 0 rfl) ?_
  refine lv_bipush (v := (7 : Int32)) hx hb dX7_set_71 (by decide) ?_
  refine lv_ldc2 (v := (-2000000005 : Int64)) hx hb hown (hts _ wX7_set_k48) dX7_set_73 ?_
  refine va_callv (va_runV (As := [.int r_1, .int (7 : Int32), .long (-2000000005 : Int64)]) (rest := []) ⟨hx, hb, C0.2.2.1, hown, hts⟩ (qX7_put l dC dI ad ci A hAD r_9 r_1 (7 : Int32) (-2000000005 : Int64) _ h) (cwV 3 hts gX7_set_X7_put rfl rfl rfl (by decide +kernel) ⟨Nat.le_of_ble_eq_true rfl, Nat.le_of_ble_eq_true rfl⟩) ⟨xr_blind, xr_recv (r := (RX7, TX7, 9)) hK hP 0 (by decide) me_M rfl, xr_pre hP hK⟩ rfl rfl hl.1 rfl (lv_room (Nat.le_of_ble_eq_true rfl)) dX7_set_76 ⟨Nat.le_of_ble_eq_true rfl, Nat.le_of_ble_eq_true rfl⟩) hS (fun _ _ h => h) (fun _ h => h) (fun r_10 t9 H locs ht hvm h hB _ _ hS => ?_)
  refine W.cs (cells' := 0) (slots' := 0) rfl rfl ?_
  have hP := x_th ht hB
  have hP : va_P (dC, dI) vwCl (xw 7 ad (mc ad ci r_10)) H := hP
  refine lv_aload_n hx hb dX7_set_79 rfl (lv_at hl 1 rfl) ?_
  refine lv_iload_n hx hb dX7_set_80 rfl (lv_at hl 0 rfl) ?_
  refine lv_bipush (v := (8 : Int32)) hx hb dX7_set_81 (by decide) ?_
  refine lv_lconst (v := (0 : Int64)) hx hb dX7_set_83 (by decide) ?_
  refine va_callv (va_runV (As := [.int r_1, .int (8 : Int32), .long (0 : Int64)]) (rest := []) ⟨hx, hb, C0.2.2.1, hown, hts⟩ (qX7_put l dC dI ad ci A hAD r_10 r_1 (8 : Int32) (0 : Int64) _ h) (cwV 3 hts gX7_set_X7_put rfl rfl rfl (by decide +kernel) ⟨Nat.le_of_ble_eq_true rfl, Nat.le_of_ble_eq_true rfl⟩) ⟨xr_blind, xr_recv (r := (RX7, TX7, 9)) hK hP 0 (by decide) me_M rfl, xr_pre hP hK⟩ rfl rfl hl.1 rfl (lv_room (Nat.le_of_ble_eq_true rfl)) dX7_set_84 ⟨Nat.le_of_ble_eq_true rfl, Nat.le_of_ble_eq_true rfl⟩) hS (fun _ _ h => h) (fun _ h => h) (fun r_11 t9 H locs ht hvm h hB _ _ hS => ?_)
  refine W.cs (cells' := 0) (slots' := 0) rfl rfl ?_
  have hP := x_th ht hB
  have hP : va_P (dC, dI) vwCl (xw 7 ad (mc ad ci r_11)) H := hP
  refine lv_aload_n hx hb dX7_set_87 rfl (lv_at hl 1 rfl) ?_
  refine lv_iload_n hx hb dX7_set_88 rfl (lv_at hl 0 rfl) ?_
  refine lv_bipush (v := (9 : Int32)) hx hb dX7_set_89 (by decide) ?_
  refine lv_lconst (v := (0 : Int64)) hx hb dX7_set_91 (by decide) ?_
  refine va_callv (va_runV (As := [.int r_1, .int (9 : Int32), .long (0 : Int64)]) (rest := []) ⟨hx, hb, C0.2.2.1, hown, hts⟩ (qX7_put l dC dI ad ci A hAD r_11 r_1 (9 : Int32) (0 : Int64) _ h) (cwV 3 hts gX7_set_X7_put rfl rfl rfl (by decide +kernel) ⟨Nat.le_of_ble_eq_true rfl, Nat.le_of_ble_eq_true rfl⟩) ⟨xr_blind, xr_recv (r := (RX7, TX7, 9)) hK hP 0 (by decide) me_M rfl, xr_pre hP hK⟩ rfl rfl hl.1 rfl (lv_room (Nat.le_of_ble_eq_true rfl)) dX7_set_92 ⟨Nat.le_of_ble_eq_true rfl, Nat.le_of_ble_eq_true rfl⟩) hS (fun _ _ h => h) (fun _ h => h) (fun r_12 t9 H locs ht hvm h hB _ _ hS => ?_)
  refine W.cs (cells' := 0) (slots' := 0) rfl rfl ?_
  have hP := x_th ht hB
  have hP : va_P (dC, dI) vwCl (xw 7 ad (mc ad ci r_12)) H := hP
  refine lv_aload_n hx hb dX7_set_95 rfl (lv_at hl 1 rfl) ?_
  refine lv_iload_n hx hb dX7_set_96 rfl (lv_at hl 0 rfl) ?_
  refine lv_bipush (v := (10 : Int32)) hx hb dX7_set_97 (by decide) ?_
  refine lv_ldc2 (v := (-2000000005 : Int64)) hx hb hown (hts _ wX7_set_k48) dX7_set_99 ?_
  refine va_callv (va_runV (As := [.int r_1, .int (10 : Int32), .long (-2000000005 : Int64)]) (rest := []) ⟨hx, hb, C0.2.2.1, hown, hts⟩ (qX7_put l dC dI ad ci A hAD r_12 r_1 (10 : Int32) (-2000000005 : Int64) _ h) (cwV 3 hts gX7_set_X7_put rfl rfl rfl (by decide +kernel) ⟨Nat.le_of_ble_eq_true rfl, Nat.le_of_ble_eq_true rfl⟩) ⟨xr_blind, xr_recv (r := (RX7, TX7, 9)) hK hP 0 (by decide) me_M rfl, xr_pre hP hK⟩ rfl rfl hl.1 rfl (lv_room (Nat.le_of_ble_eq_true rfl)) dX7_set_102 ⟨Nat.le_of_ble_eq_true rfl, Nat.le_of_ble_eq_true rfl⟩) hS (fun _ _ h => h) (fun _ h => h) (fun r_13 t9 H locs ht hvm h hB _ _ hS => ?_)
  refine W.cs (cells' := 0) (slots' := 0) rfl rfl ?_
  have hP := x_th ht hB
  have hP : va_P (dC, dI) vwCl (xw 7 ad (mc ad ci r_13)) H := hP
  refine lv_aload_n hx hb dX7_set_105 rfl (lv_at hl 1 rfl) ?_
  refine lv_iload_n hx hb dX7_set_106 rfl (lv_at hl 0 rfl) ?_
  refine lv_bipush (v := (12 : Int32)) hx hb dX7_set_107 (by decide) ?_
  refine lv_lconst (v := (0 : Int64)) hx hb dX7_set_109 (by decide) ?_
  refine va_callv (va_runV (As := [.int r_1, .int (12 : Int32), .long (0 : Int64)]) (rest := []) ⟨hx, hb, C0.2.2.1, hown, hts⟩ (qX7_put l dC dI ad ci A hAD r_13 r_1 (12 : Int32) (0 : Int64) _ h) (cwV 3 hts gX7_set_X7_put rfl rfl rfl (by decide +kernel) ⟨Nat.le_of_ble_eq_true rfl, Nat.le_of_ble_eq_true rfl⟩) ⟨xr_blind, xr_recv (r := (RX7, TX7, 9)) hK hP 0 (by decide) me_M rfl, xr_pre hP hK⟩ rfl rfl hl.1 rfl (lv_room (Nat.le_of_ble_eq_true rfl)) dX7_set_110 ⟨Nat.le_of_ble_eq_true rfl, Nat.le_of_ble_eq_true rfl⟩) hS (fun _ _ h => h) (fun _ h => h) (fun r_14 t9 H locs ht hvm h hB _ _ hS => ?_)
  refine W.cs (cells' := 0) (slots' := 0) rfl rfl ?_
  have hP := x_th ht hB
  have hP : va_P (dC, dI) vwCl (xw 7 ad (mc ad ci r_14)) H := hP
  refine lv_aload_n hx hb dX7_set_113 rfl (lv_at hl 1 rfl) ?_
  refine lv_iload_n hx hb dX7_set_114 rfl (lv_at hl 0 rfl) ?_
  refine va_callv (va_runV (As := [.int r_1]) (rest := []) ⟨hx, hb, C0.2.2.1, hown, hts⟩ (qX7_line l dC dI ad ci A hAD r_14 r_1 _ h) (cwV 1 hts gX7_set_X7_line rfl rfl rfl (by decide +kernel) ⟨Nat.le_of_ble_eq_true rfl, Nat.le_of_ble_eq_true rfl⟩) ⟨xr_blind, xr_recv (r := (RX7, TX7, 9)) hK hP 0 (by decide) me_M rfl, xr_pre hP hK⟩ rfl rfl hl.1 rfl (lv_room (Nat.le_of_ble_eq_true rfl)) dX7_set_115 ⟨Nat.le_of_ble_eq_true rfl, Nat.le_of_ble_eq_true rfl⟩) hS (fun _ _ h => h) (fun _ h => h) (fun r_15 t9 H locs ht hvm h hB _ _ hS => ?_)
  refine W.cs (cells' := 0) (slots' := 0) rfl rfl ?_
  have hP := x_th ht hB
  have hP : va_P (dC, dI) vwCl (xw 7 ad (mc ad ci r_15)) H := hP
  refine lv_iload_n hx hb dX7_set_118 rfl (lv_at hl 0 rfl) ?_
  exact W.iret (v := r_1) hx hb hr (fun t ht hW => ⟨⟨r_1, r_15, rfl, h, x_ht ht hP⟩, hS.F ht⟩) hS.2.2 dX7_set_119
abbrev rmX7_isTick : Room := { frames := 0, cells := 0, slots := 0, locals := 0 }
theorem wX7_isTick_k67 : Cond.constantLong RX7 67 (1125899906842624) ∈ wsX7_isTick := by decide +kernel
theorem wX7_isTick_c7 : ∀ w ∈ u_ws RX7 TX7 9, w ∈ wsX7_isTick := by decide +kernel
theorem wX7_isTick_f7 : Cond.fieldLink RX7 7 "DueWheelsModel" "s" "[J" ∈ wsX7_isTick := by decide +kernel
def PX7_isTick  (r : MmV) (x1 : Int64) (post : Int32 → Prop) : Prop :=
  ((x1 ≤ (m_s r 3700) → post (0 : Int32)) ∧ (¬ x1 ≤ (m_s r 3700) → (((1125899906842624 : Int64) < x1 → post (0 : Int32)) ∧ (¬ (1125899906842624 : Int64) < x1 → post (1 : Int32)))))
set_option maxHeartbeats 4000000 in
set_option maxRecDepth 100000 in
theorem qX7_isTick (l : Launch) (dC : Nat → ClassId) (dI : Nat → Nat → Nat) (ad : Nat → Nat) (ci : Nat → ClassId) (A : Nat → Prop) (hAD : xw_D 7 ad A) (r : MmV) (x1 : Int64) (post : Int32 → Prop) (h : PX7_isTick r x1 post) : Met l yX7_isTick wsX7_isTick rmX7_isTick (va_Pc [.ref (ad 0), .long x1] (fun U => va_P (dC, dI) vwCl (xw 7 ad (mc ad ci r)) U.heap ∧ va_K (dC, dI) vwCl (xT ci) U)) (va_Qi (fun r9 (u : Unit) => post r9 ) (fun u t => va_P (dC, dI) vwCl (xw 7 ad (mc ad ci r)) t.heap) A) 0 0 A := by
  refine Met.ofW (cc := cX7_isTick) (maxL := 3) (ret := (some .boolean)) (by decide) rfl ?_
  intro p e s m args below meth c s₁ B hml hv
  obtain ⟨eargs, hP, hK⟩ := hv
  have C0 : xC p s m args meth c cX7_isTick 3 (some .boolean) RX7 wsX7_isTick (dC, dI) (xT ci) := ⟨B.exec, B.bytes, hml, B.returns, B.notSynchronized, findClass_of_methodNamed B.named, atoms_spec (ws := wsX7_isTick) B.pre, hK⟩
  obtain ⟨hx, hb, -, hr, hlocks, hown, hts, -⟩ := id C0
  have hS : va_S A s.heap s.heap [] := va_S.rf
  have hl := lv_entry ([.ref (ad 0), .long x1]) (n := 3) (Nat.le_of_ble_eq_true rfl)
  have ef : entryFrame m args 3 = entryFrame m ([.ref (ad 0), .long x1] : List Value).toArray 3 := by rw [eargs]
  rw [ef, lg_entry_eq]
  generalize (lg_sl ([.ref (ad 0), .long x1]) ++ List.replicate (3 - (lg_sl ([.ref (ad 0), .long x1])).length) Slot.unset).toArray = ls at hl ⊢
  have hl : lv_has ls 3 [(0, .ref (ad 0)), (1, .long x1)] := hl
  have hP : va_P (dC, dI) vwCl (xw 7 ad (mc ad ci r)) s.heap := hP
  unfold PX7_isTick at h
  refine lv_lload_n hx hb dX7_isTick_0 rfl (lv_at hl 1 rfl) ?_
  refine lv_aload_n hx hb dX7_isTick_1 rfl (lv_at hl 0 rfl) ?_
  refine xr_get (D := (dC, dI)) (C := RX7) (T := TX7) (N := 9) (v := .ref (ad 1)) hx hb hts wX7_isTick_c7 hown hK hP 0 (by decide) me_M rfl 0 (by decide) wX7_isTick_f7 rfl rfl dX7_isTick_2 ?_
  refine lv_sipush (v := (3700 : Int32)) hx hb dX7_isTick_5 (by decide) ?_
  refine xr_lald (k := 3700) hx hb hK hP 1 1 (by decide) me_s rfl rfl (x_in _ _ (by decide)) dX7_isTick_8 ?_
  refine xr_if_lcmp_le (tgt := 25) hx hb dX7_isTick_9 dX7_isTick_10 (by decide) (fun c_1 => ?_) (fun c_1 => ?_)
  · have h := h.1 c_1
    refine lv_iconst (v := (0 : Int32)) hx hb dX7_isTick_25 (by decide) ?_
    exact W.zret (v := (0 : Int32)) (ty := .boolean) hx hb hr (by decide) (fun t ht hW => ⟨⟨(0 : Int32), (), rfl, h, x_ht ht hP⟩, hS.F ht⟩) hS.2.2 dX7_isTick_26
  · have h := h.2 c_1
    refine lv_lload_n hx hb dX7_isTick_13 rfl (lv_at hl 1 rfl) ?_
    refine lv_ldc2 (v := (1125899906842624 : Int64)) hx hb hown (hts _ wX7_isTick_k67) dX7_isTick_14 ?_
    refine xr_if_lcmp_gt (tgt := 25) hx hb dX7_isTick_17 dX7_isTick_18 (by decide) (fun c_2 => ?_) (fun c_2 => ?_)
    · have h := h.1 c_2
      refine lv_iconst (v := (0 : Int32)) hx hb dX7_isTick_25 (by decide) ?_
      exact W.zret (v := (0 : Int32)) (ty := .boolean) hx hb hr (by decide) (fun t ht hW => ⟨⟨(0 : Int32), (), rfl, h, x_ht ht hP⟩, hS.F ht⟩) hS.2.2 dX7_isTick_26
    · have h := h.2 c_2
      refine lv_iconst (v := (1 : Int32)) hx hb dX7_isTick_21 (by decide) ?_
      refine lv_goto (tgt := 26) hx hb dX7_isTick_22 (by decide) ?_
      exact W.zret (v := (1 : Int32)) (ty := .boolean) hx hb hr (by decide) (fun t ht hW => ⟨⟨(1 : Int32), (), rfl, h, x_ht ht hP⟩, hS.F ht⟩) hS.2.2 dX7_isTick_26
abbrev rmX7_once : Room := { frames := 3, cells := 0, slots := 0, locals := 68 }
theorem wX7_once_k75 : Cond.constantLong RX7 75 (-2000000003) ∈ wsX7_once := by decide +kernel
theorem wX7_once_k73 : Cond.constantLong RX7 73 (-2000000001) ∈ wsX7_once := by decide +kernel
def PX7_once  (r : MmV) (x1 : Int64) (x3 : Int32) (post : Int64 → MmV → Prop) : Prop :=
  (PX7_isTick r x1 (fun (r_1 : Int32) => ((r_1 = 0 → post (-2000000001 : Int64) r) ∧ (¬ r_1 = 0 → (PX7_freeOne r (fun (r_3 : Int32) => ((r_3 = (200 : Int32) → post (-2000000003 : Int64) r) ∧ (¬ r_3 = (200 : Int32) → (PX7_set r (0 : Int32) x3 (fun (r_5 : Int32) (r_6 : MmV) => (PX7_tick r_6 r_5 x1 (fun (r_7 : MmV) => post (r_5.toInt64) r_7))))))))))))
set_option maxHeartbeats 4000000 in
set_option maxRecDepth 100000 in
theorem qX7_once (l : Launch) (dC : Nat → ClassId) (dI : Nat → Nat → Nat) (ad : Nat → Nat) (ci : Nat → ClassId) (A : Nat → Prop) (hAD : xw_D 7 ad A) (r : MmV) (x1 : Int64) (x3 : Int32) (post : Int64 → MmV → Prop) (h : PX7_once r x1 x3 post) : Met l yX7_once wsX7_once rmX7_once (va_Pc [.ref (ad 0), .long x1, .int x3] (fun U => va_P (dC, dI) vwCl (xw 7 ad (mc ad ci r)) U.heap ∧ va_K (dC, dI) vwCl (xT ci) U)) (va_Ql (fun r9 (u : MmV) => post r9 u) (fun u t => va_P (dC, dI) vwCl (xw 7 ad (mc ad ci u)) t.heap) A) 0 0 A := by
  refine Met.ofW (cc := cX7_once) (maxL := 5) (ret := (some .long)) (by decide) rfl ?_
  intro p e s m args below meth c s₁ B hml hv
  obtain ⟨eargs, hP, hK⟩ := hv
  have C0 : xC p s m args meth c cX7_once 5 (some .long) RX7 wsX7_once (dC, dI) (xT ci) := ⟨B.exec, B.bytes, hml, B.returns, B.notSynchronized, findClass_of_methodNamed B.named, atoms_spec (ws := wsX7_once) B.pre, hK⟩
  obtain ⟨hx, hb, -, hr, hlocks, hown, hts, -⟩ := id C0
  have hS : va_S A s.heap s.heap [] := va_S.rf
  have hl := lv_entry ([.ref (ad 0), .long x1, .int x3]) (n := 5) (Nat.le_of_ble_eq_true rfl)
  have ef : entryFrame m args 5 = entryFrame m ([.ref (ad 0), .long x1, .int x3] : List Value).toArray 5 := by rw [eargs]
  rw [ef, lg_entry_eq]
  generalize (lg_sl ([.ref (ad 0), .long x1, .int x3]) ++ List.replicate (5 - (lg_sl ([.ref (ad 0), .long x1, .int x3])).length) Slot.unset).toArray = ls at hl ⊢
  have hl : lv_has ls 5 [(0, .ref (ad 0)), (1, .long x1), (3, .int x3)] := hl
  have hP : va_P (dC, dI) vwCl (xw 7 ad (mc ad ci r)) s.heap := hP
  unfold PX7_once at h
  refine lv_aload_n hx hb dX7_once_0 rfl (lv_at hl 0 rfl) ?_
  refine lv_lload_n hx hb dX7_once_1 rfl (lv_at hl 1 rfl) ?_
  refine va_calli (va_runV (As := [.long x1]) (rest := []) ⟨hx, hb, C0.2.2.1, hown, hts⟩ (qX7_isTick l dC dI ad ci A hAD r x1 _ h) (cwV 1 hts gX7_once_X7_isTick rfl rfl rfl (by decide +kernel) ⟨Nat.le_of_ble_eq_true rfl, Nat.le_of_ble_eq_true rfl⟩) ⟨xr_blind, xr_recv (r := (RX7, TX7, 9)) hK hP 0 (by decide) me_M rfl, xr_pre hP hK⟩ rfl rfl hl.1 rfl (lv_room (Nat.le_of_ble_eq_true rfl)) dX7_once_2 ⟨Nat.le_of_ble_eq_true rfl, Nat.le_of_ble_eq_true rfl⟩) hS (fun _ _ h => h) (fun _ h => h) (fun r_1 _ t9 H locs ht hvm h hB _ _ hS => ?_)
  refine W.cs (cells' := 0) (slots' := 0) rfl rfl ?_
  have hP := x_th ht hB
  have hP : va_P (dC, dI) vwCl (xw 7 ad (mc ad ci r)) H := hP
  refine lv_if_ne (tgt := 12) hx hb dX7_once_5 (by decide) (fun c_2 => ?_) (fun c_2 => ?_)
  · have h := h.2 c_2
    refine lv_aload_n hx hb dX7_once_12 rfl (lv_at hl 0 rfl) ?_
    refine va_calli (va_runV (As := []) (rest := []) ⟨hx, hb, C0.2.2.1, hown, hts⟩ (qX7_freeOne l dC dI ad ci A hAD r  _ h) (cwV 0 hts gX7_once_X7_freeOne rfl rfl rfl (by decide +kernel) ⟨Nat.le_of_ble_eq_true rfl, Nat.le_of_ble_eq_true rfl⟩) ⟨xr_blind, xr_recv (r := (RX7, TX7, 9)) hK hP 0 (by decide) me_M rfl, xr_pre hP hK⟩ rfl rfl hl.1 rfl (lv_room (Nat.le_of_ble_eq_true rfl)) dX7_once_13 ⟨Nat.le_of_ble_eq_true rfl, Nat.le_of_ble_eq_true rfl⟩) hS (fun _ _ h => h) (fun _ h => h) (fun r_3 _ t9 H locs ht hvm h hB _ _ hS => ?_)
    refine W.cs (cells' := 0) (slots' := 0) rfl rfl ?_
    have hP := x_th ht hB
    have hP : va_P (dC, dI) vwCl (xw 7 ad (mc ad ci r)) H := hP
    refine lv_sipush (v := (200 : Int32)) hx hb dX7_once_16 (by decide) ?_
    refine lv_icmp_ne (tgt := 26) hx hb dX7_once_19 (by decide) (fun c_4 => ?_) (fun c_4 => ?_)
    · have h := h.2 c_4
      refine lv_aload_n hx hb dX7_once_26 rfl (lv_at hl 0 rfl) ?_
      refine lv_iconst (v := (0 : Int32)) hx hb dX7_once_27 (by decide) ?_
      refine lv_iload_n hx hb dX7_once_28 rfl (lv_at hl 2 rfl) ?_
      refine va_calli (va_runV (As := [.int (0 : Int32), .int x3]) (rest := []) ⟨hx, hb, C0.2.2.1, hown, hts⟩ (qX7_set l dC dI ad ci A hAD r (0 : Int32) x3 _ h) (cwV 2 hts gX7_once_X7_set rfl rfl rfl (by decide +kernel) ⟨Nat.le_of_ble_eq_true rfl, Nat.le_of_ble_eq_true rfl⟩) ⟨xr_blind, xr_recv (r := (RX7, TX7, 9)) hK hP 0 (by decide) me_M rfl, xr_pre hP hK⟩ rfl rfl hl.1 rfl (lv_room (Nat.le_of_ble_eq_true rfl)) dX7_once_29 ⟨Nat.le_of_ble_eq_true rfl, Nat.le_of_ble_eq_true rfl⟩) hS (fun _ _ h => h) (fun _ h => h) (fun r_5 r_6 t9 H locs ht hvm h hB _ _ hS => ?_)
      refine W.cs (cells' := 0) (slots' := 0) rfl rfl ?_
      have hP := x_th ht hB
      have hP : va_P (dC, dI) vwCl (xw 7 ad (mc ad ci r_6)) H := hP
      refine lv_istore (lv' := [(4, .int r_5), (0, .ref (ad 0)), (1, .long x1), (3, .int x3)]) hx hb dX7_once_32 hl (by decide) rfl (fun ls hl => ?_)
      refine lv_aload_n hx hb dX7_once_34 rfl (lv_at hl 1 rfl) ?_
      refine lv_iload hx hb dX7_once_35 (lv_at hl 0 rfl) ?_
      refine lv_lload_n hx hb dX7_once_37 rfl (lv_at hl 2 rfl) ?_
      refine va_callv (va_runV (As := [.int r_5, .long x1]) (rest := []) ⟨hx, hb, C0.2.2.1, hown, hts⟩ (qX7_tick l dC dI ad ci A hAD r_6 r_5 x1 _ h) (cwV 2 hts gX7_once_X7_tick rfl rfl rfl (by decide +kernel) ⟨Nat.le_of_ble_eq_true rfl, Nat.le_of_ble_eq_true rfl⟩) ⟨xr_blind, xr_recv (r := (RX7, TX7, 9)) hK hP 0 (by decide) me_M rfl, xr_pre hP hK⟩ rfl rfl hl.1 rfl (lv_room (Nat.le_of_ble_eq_true rfl)) dX7_once_38 ⟨Nat.le_of_ble_eq_true rfl, Nat.le_of_ble_eq_true rfl⟩) hS (fun _ _ h => h) (fun _ h => h) (fun r_7 t9 H locs ht hvm h hB _ _ hS => ?_)
      refine W.cs (cells' := 0) (slots' := 0) rfl rfl ?_
      have hP := x_th ht hB
      have hP : va_P (dC, dI) vwCl (xw 7 ad (mc ad ci r_7)) H := hP
      refine lv_iload hx hb dX7_once_41 (lv_at hl 0 rfl) ?_
      refine lv_i2l hx hb dX7_once_43 rfl ?_
      exact W.lret (v := (r_5.toInt64)) hx hb hr (fun t ht hW => ⟨⟨(r_5.toInt64), r_7, rfl, h, x_ht ht hP⟩, hS.F ht⟩) hS.2.2 dX7_once_44
    · have h := h.1 c_4
      refine lv_ldc2 (v := (-2000000003 : Int64)) hx hb hown (hts _ wX7_once_k75) dX7_once_22 ?_
      exact W.lret (v := (-2000000003 : Int64)) hx hb hr (fun t ht hW => ⟨⟨(-2000000003 : Int64), r, rfl, h, x_ht ht hP⟩, hS.F ht⟩) hS.2.2 dX7_once_25
  · have h := h.1 c_2
    refine lv_ldc2 (v := (-2000000001 : Int64)) hx hb hown (hts _ wX7_once_k73) dX7_once_8 ?_
    exact W.lret (v := (-2000000001 : Int64)) hx hb hr (fun t ht hW => ⟨⟨(-2000000001 : Int64), r, rfl, h, x_ht ht hP⟩, hS.F ht⟩) hS.2.2 dX7_once_11
abbrev rmX7_repeated : Room := { frames := 3, cells := 0, slots := 0, locals := 68 }
theorem wX7_repeated_k73 : Cond.constantLong RX7 73 (-2000000001) ∈ wsX7_repeated := by decide +kernel
theorem wX7_repeated_k67 : Cond.constantLong RX7 67 (1125899906842624) ∈ wsX7_repeated := by decide +kernel
theorem wX7_repeated_k85 : Cond.constantLong RX7 85 (1000000) ∈ wsX7_repeated := by decide +kernel
theorem wX7_repeated_k75 : Cond.constantLong RX7 75 (-2000000003) ∈ wsX7_repeated := by decide +kernel
def PX7_repeated  (r : MmV) (x1 : Int32) (x2 : Int64) (x4 : Int64) (x6 : Int32) (x7 : Int32) (post : Int64 → MmV → Prop) : Prop :=
  (PX7_isTick r x2 (fun (r_1 : Int32) => ((r_1 = 0 → post (-2000000001 : Int64) r) ∧ (¬ r_1 = 0 → (PX7_isIn x4 (1 : Int64) (1125899906842624 : Int64) (fun (r_3 : Int32) => ((r_3 = 0 → post (-2000000001 : Int64) r) ∧ (¬ r_3 = 0 → (PX7_isIn (x6.toInt64) (0 : Int64) (1000000 : Int64) (fun (r_5 : Int32) => ((r_5 = 0 → post (-2000000001 : Int64) r) ∧ (¬ r_5 = 0 → (PX7_freeOne r (fun (r_7 : Int32) => ((r_7 = (200 : Int32) → post (-2000000003 : Int64) r) ∧ (¬ r_7 = (200 : Int32) → (PX7_set r x1 x7 (fun (r_9 : Int32) (r_10 : MmV) => (PX7_tick r_10 r_9 x2 (fun (r_11 : MmV) => (PX7_put r_11 r_9 (5 : Int32) x4 (fun (r_12 : MmV) => (PX7_put r_12 r_9 (6 : Int32) (x6.toInt64) (fun (r_13 : MmV) => post (r_9.toInt64) r_13))))))))))))))))))))))))
set_option maxHeartbeats 4000000 in
set_option maxRecDepth 100000 in
theorem qX7_repeated (l : Launch) (dC : Nat → ClassId) (dI : Nat → Nat → Nat) (ad : Nat → Nat) (ci : Nat → ClassId) (A : Nat → Prop) (hAD : xw_D 7 ad A) (r : MmV) (x1 : Int32) (x2 : Int64) (x4 : Int64) (x6 : Int32) (x7 : Int32) (post : Int64 → MmV → Prop) (h : PX7_repeated r x1 x2 x4 x6 x7 post) : Met l yX7_repeated wsX7_repeated rmX7_repeated (va_Pc [.ref (ad 0), .int x1, .long x2, .long x4, .int x6, .int x7] (fun U => va_P (dC, dI) vwCl (xw 7 ad (mc ad ci r)) U.heap ∧ va_K (dC, dI) vwCl (xT ci) U)) (va_Ql (fun r9 (u : MmV) => post r9 u) (fun u t => va_P (dC, dI) vwCl (xw 7 ad (mc ad ci u)) t.heap) A) 0 0 A := by
  refine Met.ofW (cc := cX7_repeated) (maxL := 9) (ret := (some .long)) (by decide) rfl ?_
  intro p e s m args below meth c s₁ B hml hv
  obtain ⟨eargs, hP, hK⟩ := hv
  have C0 : xC p s m args meth c cX7_repeated 9 (some .long) RX7 wsX7_repeated (dC, dI) (xT ci) := ⟨B.exec, B.bytes, hml, B.returns, B.notSynchronized, findClass_of_methodNamed B.named, atoms_spec (ws := wsX7_repeated) B.pre, hK⟩
  obtain ⟨hx, hb, -, hr, hlocks, hown, hts, -⟩ := id C0
  have hS : va_S A s.heap s.heap [] := va_S.rf
  have hl := lv_entry ([.ref (ad 0), .int x1, .long x2, .long x4, .int x6, .int x7]) (n := 9) (Nat.le_of_ble_eq_true rfl)
  have ef : entryFrame m args 9 = entryFrame m ([.ref (ad 0), .int x1, .long x2, .long x4, .int x6, .int x7] : List Value).toArray 9 := by rw [eargs]
  rw [ef, lg_entry_eq]
  generalize (lg_sl ([.ref (ad 0), .int x1, .long x2, .long x4, .int x6, .int x7]) ++ List.replicate (9 - (lg_sl ([.ref (ad 0), .int x1, .long x2, .long x4, .int x6, .int x7])).length) Slot.unset).toArray = ls at hl ⊢
  have hl : lv_has ls 9 [(0, .ref (ad 0)), (1, .int x1), (2, .long x2), (4, .long x4), (6, .int x6), (7, .int x7)] := hl
  have hP : va_P (dC, dI) vwCl (xw 7 ad (mc ad ci r)) s.heap := hP
  unfold PX7_repeated at h
  refine lv_aload_n hx hb dX7_repeated_0 rfl (lv_at hl 0 rfl) ?_
  refine lv_lload_n hx hb dX7_repeated_1 rfl (lv_at hl 2 rfl) ?_
  refine va_calli (va_runV (As := [.long x2]) (rest := []) ⟨hx, hb, C0.2.2.1, hown, hts⟩ (qX7_isTick l dC dI ad ci A hAD r x2 _ h) (cwV 1 hts gX7_repeated_X7_isTick rfl rfl rfl (by decide +kernel) ⟨Nat.le_of_ble_eq_true rfl, Nat.le_of_ble_eq_true rfl⟩) ⟨xr_blind, xr_recv (r := (RX7, TX7, 9)) hK hP 0 (by decide) me_M rfl, xr_pre hP hK⟩ rfl rfl hl.1 rfl (lv_room (Nat.le_of_ble_eq_true rfl)) dX7_repeated_2 ⟨Nat.le_of_ble_eq_true rfl, Nat.le_of_ble_eq_true rfl⟩) hS (fun _ _ h => h) (fun _ h => h) (fun r_1 _ t9 H locs ht hvm h hB _ _ hS => ?_)
  refine W.cs (cells' := 0) (slots' := 0) rfl rfl ?_
  have hP := x_th ht hB
  have hP : va_P (dC, dI) vwCl (xw 7 ad (mc ad ci r)) H := hP
  refine lv_if_eq (tgt := 33) hx hb dX7_repeated_5 (by decide) (fun c_2 => ?_) (fun c_2 => ?_)
  · have h := h.1 c_2
    refine lv_ldc2 (v := (-2000000001 : Int64)) hx hb hown (hts _ wX7_repeated_k73) dX7_repeated_33 ?_
    exact W.lret (v := (-2000000001 : Int64)) hx hb hr (fun t ht hW => ⟨⟨(-2000000001 : Int64), r, rfl, h, x_ht ht hP⟩, hS.F ht⟩) hS.2.2 dX7_repeated_36
  · have h := h.2 c_2
    refine lv_lload hx hb dX7_repeated_8 (lv_at hl 3 rfl) ?_
    refine lv_lconst (v := (1 : Int64)) hx hb dX7_repeated_10 (by decide) ?_
    refine lv_ldc2 (v := (1125899906842624 : Int64)) hx hb hown (hts _ wX7_repeated_k67) dX7_repeated_11 ?_
    refine va_calli (va_runS (As := [.long x4, .long (1 : Int64), .long (1125899906842624 : Int64)]) (rest := []) ⟨hx, hb, C0.2.2.1, hown, hts⟩ (qX7_isIn l dC dI 7 ad (mc ad ci r) (xT ci) A x4 (1 : Int64) (1125899906842624 : Int64) _ h) (va_cwS 3 hts gX7_repeated_X7_isIn rfl rfl rfl (by decide +kernel) ⟨Nat.le_of_ble_eq_true rfl, Nat.le_of_ble_eq_true rfl⟩) ⟨xr_blind, xr_pre hP hK⟩ rfl rfl hl.1 rfl (lv_room (Nat.le_of_ble_eq_true rfl)) dX7_repeated_14 ⟨Nat.le_of_ble_eq_true rfl, Nat.le_of_ble_eq_true rfl⟩) hS (fun _ _ h => h) (fun _ h => h) (fun r_3 _ t9 H locs ht hvm h hB _ _ hS => ?_)
    refine W.cs (cells' := 0) (slots' := 0) rfl rfl ?_
    have hP := x_th ht hB
    have hP : va_P (dC, dI) vwCl (xw 7 ad (mc ad ci r)) H := hP
    refine lv_if_eq (tgt := 33) hx hb dX7_repeated_17 (by decide) (fun c_4 => ?_) (fun c_4 => ?_)
    · have h := h.1 c_4
      refine lv_ldc2 (v := (-2000000001 : Int64)) hx hb hown (hts _ wX7_repeated_k73) dX7_repeated_33 ?_
      exact W.lret (v := (-2000000001 : Int64)) hx hb hr (fun t ht hW => ⟨⟨(-2000000001 : Int64), r, rfl, h, x_ht ht hP⟩, hS.F ht⟩) hS.2.2 dX7_repeated_36
    · have h := h.2 c_4
      refine lv_iload hx hb dX7_repeated_20 (lv_at hl 4 rfl) ?_
      refine lv_i2l hx hb dX7_repeated_22 rfl ?_
      refine lv_lconst (v := (0 : Int64)) hx hb dX7_repeated_23 (by decide) ?_
      refine lv_ldc2 (v := (1000000 : Int64)) hx hb hown (hts _ wX7_repeated_k85) dX7_repeated_24 ?_
      refine va_calli (va_runS (As := [.long (x6.toInt64), .long (0 : Int64), .long (1000000 : Int64)]) (rest := []) ⟨hx, hb, C0.2.2.1, hown, hts⟩ (qX7_isIn l dC dI 7 ad (mc ad ci r) (xT ci) A (x6.toInt64) (0 : Int64) (1000000 : Int64) _ h) (va_cwS 3 hts gX7_repeated_X7_isIn rfl rfl rfl (by decide +kernel) ⟨Nat.le_of_ble_eq_true rfl, Nat.le_of_ble_eq_true rfl⟩) ⟨xr_blind, xr_pre hP hK⟩ rfl rfl hl.1 rfl (lv_room (Nat.le_of_ble_eq_true rfl)) dX7_repeated_27 ⟨Nat.le_of_ble_eq_true rfl, Nat.le_of_ble_eq_true rfl⟩) hS (fun _ _ h => h) (fun _ h => h) (fun r_5 _ t9 H locs ht hvm h hB _ _ hS => ?_)
      refine W.cs (cells' := 0) (slots' := 0) rfl rfl ?_
      have hP := x_th ht hB
      have hP : va_P (dC, dI) vwCl (xw 7 ad (mc ad ci r)) H := hP
      refine lv_if_ne (tgt := 37) hx hb dX7_repeated_30 (by decide) (fun c_6 => ?_) (fun c_6 => ?_)
      · have h := h.2 c_6
        refine lv_aload_n hx hb dX7_repeated_37 rfl (lv_at hl 0 rfl) ?_
        refine va_calli (va_runV (As := []) (rest := []) ⟨hx, hb, C0.2.2.1, hown, hts⟩ (qX7_freeOne l dC dI ad ci A hAD r  _ h) (cwV 0 hts gX7_repeated_X7_freeOne rfl rfl rfl (by decide +kernel) ⟨Nat.le_of_ble_eq_true rfl, Nat.le_of_ble_eq_true rfl⟩) ⟨xr_blind, xr_recv (r := (RX7, TX7, 9)) hK hP 0 (by decide) me_M rfl, xr_pre hP hK⟩ rfl rfl hl.1 rfl (lv_room (Nat.le_of_ble_eq_true rfl)) dX7_repeated_38 ⟨Nat.le_of_ble_eq_true rfl, Nat.le_of_ble_eq_true rfl⟩) hS (fun _ _ h => h) (fun _ h => h) (fun r_7 _ t9 H locs ht hvm h hB _ _ hS => ?_)
        refine W.cs (cells' := 0) (slots' := 0) rfl rfl ?_
        have hP := x_th ht hB
        have hP : va_P (dC, dI) vwCl (xw 7 ad (mc ad ci r)) H := hP
        refine lv_sipush (v := (200 : Int32)) hx hb dX7_repeated_41 (by decide) ?_
        refine lv_icmp_ne (tgt := 51) hx hb dX7_repeated_44 (by decide) (fun c_8 => ?_) (fun c_8 => ?_)
        · have h := h.2 c_8
          refine lv_aload_n hx hb dX7_repeated_51 rfl (lv_at hl 0 rfl) ?_
          refine lv_iload_n hx hb dX7_repeated_52 rfl (lv_at hl 1 rfl) ?_
          refine lv_iload hx hb dX7_repeated_53 (lv_at hl 5 rfl) ?_
          refine va_calli (va_runV (As := [.int x1, .int x7]) (rest := []) ⟨hx, hb, C0.2.2.1, hown, hts⟩ (qX7_set l dC dI ad ci A hAD r x1 x7 _ h) (cwV 2 hts gX7_repeated_X7_set rfl rfl rfl (by decide +kernel) ⟨Nat.le_of_ble_eq_true rfl, Nat.le_of_ble_eq_true rfl⟩) ⟨xr_blind, xr_recv (r := (RX7, TX7, 9)) hK hP 0 (by decide) me_M rfl, xr_pre hP hK⟩ rfl rfl hl.1 rfl (lv_room (Nat.le_of_ble_eq_true rfl)) dX7_repeated_55 ⟨Nat.le_of_ble_eq_true rfl, Nat.le_of_ble_eq_true rfl⟩) hS (fun _ _ h => h) (fun _ h => h) (fun r_9 r_10 t9 H locs ht hvm h hB _ _ hS => ?_)
          refine W.cs (cells' := 0) (slots' := 0) rfl rfl ?_
          have hP := x_th ht hB
          have hP : va_P (dC, dI) vwCl (xw 7 ad (mc ad ci r_10)) H := hP
          refine lv_istore (lv' := [(8, .int r_9), (0, .ref (ad 0)), (1, .int x1), (2, .long x2), (4, .long x4), (6, .int x6), (7, .int x7)]) hx hb dX7_repeated_58 hl (by decide) rfl (fun ls hl => ?_)
          refine lv_aload_n hx hb dX7_repeated_60 rfl (lv_at hl 1 rfl) ?_
          refine lv_iload hx hb dX7_repeated_61 (lv_at hl 0 rfl) ?_
          refine lv_lload_n hx hb dX7_repeated_63 rfl (lv_at hl 3 rfl) ?_
          refine va_callv (va_runV (As := [.int r_9, .long x2]) (rest := []) ⟨hx, hb, C0.2.2.1, hown, hts⟩ (qX7_tick l dC dI ad ci A hAD r_10 r_9 x2 _ h) (cwV 2 hts gX7_repeated_X7_tick rfl rfl rfl (by decide +kernel) ⟨Nat.le_of_ble_eq_true rfl, Nat.le_of_ble_eq_true rfl⟩) ⟨xr_blind, xr_recv (r := (RX7, TX7, 9)) hK hP 0 (by decide) me_M rfl, xr_pre hP hK⟩ rfl rfl hl.1 rfl (lv_room (Nat.le_of_ble_eq_true rfl)) dX7_repeated_64 ⟨Nat.le_of_ble_eq_true rfl, Nat.le_of_ble_eq_true rfl⟩) hS (fun _ _ h => h) (fun _ h => h) (fun r_11 t9 H locs ht hvm h hB _ _ hS => ?_)
          refine W.cs (cells' := 0) (slots' := 0) rfl rfl ?_
          have hP := x_th ht hB
          have hP : va_P (dC, dI) vwCl (xw 7 ad (mc ad ci r_11)) H := hP
          refine lv_aload_n hx hb dX7_repeated_67 rfl (lv_at hl 1 rfl) ?_
          refine lv_iload hx hb dX7_repeated_68 (lv_at hl 0 rfl) ?_
          refine lv_iconst (v := (5 : Int32)) hx hb dX7_repeated_70 (by decide) ?_
          refine lv_lload hx hb dX7_repeated_71 (lv_at hl 4 rfl) ?_
          refine va_callv (va_runV (As := [.int r_9, .int (5 : Int32), .long x4]) (rest := []) ⟨hx, hb, C0.2.2.1, hown, hts⟩ (qX7_put l dC dI ad ci A hAD r_11 r_9 (5 : Int32) x4 _ h) (cwV 3 hts gX7_repeated_X7_put rfl rfl rfl (by decide +kernel) ⟨Nat.le_of_ble_eq_true rfl, Nat.le_of_ble_eq_true rfl⟩) ⟨xr_blind, xr_recv (r := (RX7, TX7, 9)) hK hP 0 (by decide) me_M rfl, xr_pre hP hK⟩ rfl rfl hl.1 rfl (lv_room (Nat.le_of_ble_eq_true rfl)) dX7_repeated_73 ⟨Nat.le_of_ble_eq_true rfl, Nat.le_of_ble_eq_true rfl⟩) hS (fun _ _ h => h) (fun _ h => h) (fun r_12 t9 H locs ht hvm h hB _ _ hS => ?_)
          refine W.cs (cells' := 0) (slots' := 0) rfl rfl ?_
          have hP := x_th ht hB
          have hP : va_P (dC, dI) vwCl (xw 7 ad (mc ad ci r_12)) H := hP
          refine lv_aload_n hx hb dX7_repeated_76 rfl (lv_at hl 1 rfl) ?_
          refine lv_iload hx hb dX7_repeated_77 (lv_at hl 0 rfl) ?_
          refine lv_bipush (v := (6 : Int32)) hx hb dX7_repeated_79 (by decide) ?_
          refine lv_iload hx hb dX7_repeated_81 (lv_at hl 5 rfl) ?_
          refine lv_i2l hx hb dX7_repeated_83 rfl ?_
          refine va_callv (va_runV (As := [.int r_9, .int (6 : Int32), .long (x6.toInt64)]) (rest := []) ⟨hx, hb, C0.2.2.1, hown, hts⟩ (qX7_put l dC dI ad ci A hAD r_12 r_9 (6 : Int32) (x6.toInt64) _ h) (cwV 3 hts gX7_repeated_X7_put rfl rfl rfl (by decide +kernel) ⟨Nat.le_of_ble_eq_true rfl, Nat.le_of_ble_eq_true rfl⟩) ⟨xr_blind, xr_recv (r := (RX7, TX7, 9)) hK hP 0 (by decide) me_M rfl, xr_pre hP hK⟩ rfl rfl hl.1 rfl (lv_room (Nat.le_of_ble_eq_true rfl)) dX7_repeated_84 ⟨Nat.le_of_ble_eq_true rfl, Nat.le_of_ble_eq_true rfl⟩) hS (fun _ _ h => h) (fun _ h => h) (fun r_13 t9 H locs ht hvm h hB _ _ hS => ?_)
          refine W.cs (cells' := 0) (slots' := 0) rfl rfl ?_
          have hP := x_th ht hB
          have hP : va_P (dC, dI) vwCl (xw 7 ad (mc ad ci r_13)) H := hP
          refine lv_iload hx hb dX7_repeated_87 (lv_at hl 0 rfl) ?_
          refine lv_i2l hx hb dX7_repeated_89 rfl ?_
          exact W.lret (v := (r_9.toInt64)) hx hb hr (fun t ht hW => ⟨⟨(r_9.toInt64), r_13, rfl, h, x_ht ht hP⟩, hS.F ht⟩) hS.2.2 dX7_repeated_90
        · have h := h.1 c_8
          refine lv_ldc2 (v := (-2000000003 : Int64)) hx hb hown (hts _ wX7_repeated_k75) dX7_repeated_47 ?_
          exact W.lret (v := (-2000000003 : Int64)) hx hb hr (fun t ht hW => ⟨⟨(-2000000003 : Int64), r, rfl, h, x_ht ht hP⟩, hS.F ht⟩) hS.2.2 dX7_repeated_50
      · have h := h.1 c_6
        refine lv_ldc2 (v := (-2000000001 : Int64)) hx hb hown (hts _ wX7_repeated_k73) dX7_repeated_33 ?_
        exact W.lret (v := (-2000000001 : Int64)) hx hb hr (fun t ht hW => ⟨⟨(-2000000001 : Int64), r, rfl, h, x_ht ht hP⟩, hS.F ht⟩) hS.2.2 dX7_repeated_36
abbrev rmX7_often : Room := { frames := 4, cells := 0, slots := 0, locals := 96 }
def PX7_often  (r : MmV) (x1 : Int64) (x3 : Int64) (x5 : Int32) (x6 : Int32) (post : Int64 → MmV → Prop) : Prop :=
  (PX7_repeated r (1 : Int32) x1 x3 x5 x6 (fun (r_1 : Int64) (r_2 : MmV) => post r_1 r_2))
set_option maxHeartbeats 4000000 in
set_option maxRecDepth 100000 in
theorem qX7_often (l : Launch) (dC : Nat → ClassId) (dI : Nat → Nat → Nat) (ad : Nat → Nat) (ci : Nat → ClassId) (A : Nat → Prop) (hAD : xw_D 7 ad A) (r : MmV) (x1 : Int64) (x3 : Int64) (x5 : Int32) (x6 : Int32) (post : Int64 → MmV → Prop) (h : PX7_often r x1 x3 x5 x6 post) : Met l yX7_often wsX7_often rmX7_often (va_Pc [.ref (ad 0), .long x1, .long x3, .int x5, .int x6] (fun U => va_P (dC, dI) vwCl (xw 7 ad (mc ad ci r)) U.heap ∧ va_K (dC, dI) vwCl (xT ci) U)) (va_Ql (fun r9 (u : MmV) => post r9 u) (fun u t => va_P (dC, dI) vwCl (xw 7 ad (mc ad ci u)) t.heap) A) 0 0 A := by
  refine Met.ofW (cc := cX7_often) (maxL := 7) (ret := (some .long)) (by decide) rfl ?_
  intro p e s m args below meth c s₁ B hml hv
  obtain ⟨eargs, hP, hK⟩ := hv
  have C0 : xC p s m args meth c cX7_often 7 (some .long) RX7 wsX7_often (dC, dI) (xT ci) := ⟨B.exec, B.bytes, hml, B.returns, B.notSynchronized, findClass_of_methodNamed B.named, atoms_spec (ws := wsX7_often) B.pre, hK⟩
  obtain ⟨hx, hb, -, hr, hlocks, hown, hts, -⟩ := id C0
  have hS : va_S A s.heap s.heap [] := va_S.rf
  have hl := lv_entry ([.ref (ad 0), .long x1, .long x3, .int x5, .int x6]) (n := 7) (Nat.le_of_ble_eq_true rfl)
  have ef : entryFrame m args 7 = entryFrame m ([.ref (ad 0), .long x1, .long x3, .int x5, .int x6] : List Value).toArray 7 := by rw [eargs]
  rw [ef, lg_entry_eq]
  generalize (lg_sl ([.ref (ad 0), .long x1, .long x3, .int x5, .int x6]) ++ List.replicate (7 - (lg_sl ([.ref (ad 0), .long x1, .long x3, .int x5, .int x6])).length) Slot.unset).toArray = ls at hl ⊢
  have hl : lv_has ls 7 [(0, .ref (ad 0)), (1, .long x1), (3, .long x3), (5, .int x5), (6, .int x6)] := hl
  have hP : va_P (dC, dI) vwCl (xw 7 ad (mc ad ci r)) s.heap := hP
  unfold PX7_often at h
  refine lv_aload_n hx hb dX7_often_0 rfl (lv_at hl 0 rfl) ?_
  refine lv_iconst (v := (1 : Int32)) hx hb dX7_often_1 (by decide) ?_
  refine lv_lload_n hx hb dX7_often_2 rfl (lv_at hl 1 rfl) ?_
  refine lv_lload_n hx hb dX7_often_3 rfl (lv_at hl 2 rfl) ?_
  refine lv_iload hx hb dX7_often_4 (lv_at hl 3 rfl) ?_
  refine lv_iload hx hb dX7_often_6 (lv_at hl 4 rfl) ?_
  refine va_calll (va_runV (As := [.int (1 : Int32), .long x1, .long x3, .int x5, .int x6]) (rest := []) ⟨hx, hb, C0.2.2.1, hown, hts⟩ (qX7_repeated l dC dI ad ci A hAD r (1 : Int32) x1 x3 x5 x6 _ h) (cwV 5 hts gX7_often_X7_repeated rfl rfl rfl (by decide +kernel) ⟨Nat.le_of_ble_eq_true rfl, Nat.le_of_ble_eq_true rfl⟩) ⟨xr_blind, xr_recv (r := (RX7, TX7, 9)) hK hP 0 (by decide) me_M rfl, xr_pre hP hK⟩ rfl rfl hl.1 rfl (lv_room (Nat.le_of_ble_eq_true rfl)) dX7_often_8 ⟨Nat.le_of_ble_eq_true rfl, Nat.le_of_ble_eq_true rfl⟩) hS (fun _ _ h => h) (fun _ h => h) (fun r_1 r_2 t9 H locs ht hvm h hB _ _ hS => ?_)
  refine W.cs (cells' := 0) (slots' := 0) rfl rfl ?_
  have hP := x_th ht hB
  have hP : va_P (dC, dI) vwCl (xw 7 ad (mc ad ci r_2)) H := hP
  exact W.lret (v := r_1) hx hb hr (fun t ht hW => ⟨⟨r_1, r_2, rfl, h, x_ht ht hP⟩, hS.F ht⟩) hS.2.2 dX7_often_11
abbrev rmX7_resting : Room := { frames := 4, cells := 0, slots := 0, locals := 96 }
def PX7_resting  (r : MmV) (x1 : Int64) (x3 : Int64) (x5 : Int32) (x6 : Int32) (post : Int64 → MmV → Prop) : Prop :=
  (PX7_repeated r (4 : Int32) x1 x3 x5 x6 (fun (r_1 : Int64) (r_2 : MmV) => post r_1 r_2))
set_option maxHeartbeats 4000000 in
set_option maxRecDepth 100000 in
theorem qX7_resting (l : Launch) (dC : Nat → ClassId) (dI : Nat → Nat → Nat) (ad : Nat → Nat) (ci : Nat → ClassId) (A : Nat → Prop) (hAD : xw_D 7 ad A) (r : MmV) (x1 : Int64) (x3 : Int64) (x5 : Int32) (x6 : Int32) (post : Int64 → MmV → Prop) (h : PX7_resting r x1 x3 x5 x6 post) : Met l yX7_resting wsX7_resting rmX7_resting (va_Pc [.ref (ad 0), .long x1, .long x3, .int x5, .int x6] (fun U => va_P (dC, dI) vwCl (xw 7 ad (mc ad ci r)) U.heap ∧ va_K (dC, dI) vwCl (xT ci) U)) (va_Ql (fun r9 (u : MmV) => post r9 u) (fun u t => va_P (dC, dI) vwCl (xw 7 ad (mc ad ci u)) t.heap) A) 0 0 A := by
  refine Met.ofW (cc := cX7_resting) (maxL := 7) (ret := (some .long)) (by decide) rfl ?_
  intro p e s m args below meth c s₁ B hml hv
  obtain ⟨eargs, hP, hK⟩ := hv
  have C0 : xC p s m args meth c cX7_resting 7 (some .long) RX7 wsX7_resting (dC, dI) (xT ci) := ⟨B.exec, B.bytes, hml, B.returns, B.notSynchronized, findClass_of_methodNamed B.named, atoms_spec (ws := wsX7_resting) B.pre, hK⟩
  obtain ⟨hx, hb, -, hr, hlocks, hown, hts, -⟩ := id C0
  have hS : va_S A s.heap s.heap [] := va_S.rf
  have hl := lv_entry ([.ref (ad 0), .long x1, .long x3, .int x5, .int x6]) (n := 7) (Nat.le_of_ble_eq_true rfl)
  have ef : entryFrame m args 7 = entryFrame m ([.ref (ad 0), .long x1, .long x3, .int x5, .int x6] : List Value).toArray 7 := by rw [eargs]
  rw [ef, lg_entry_eq]
  generalize (lg_sl ([.ref (ad 0), .long x1, .long x3, .int x5, .int x6]) ++ List.replicate (7 - (lg_sl ([.ref (ad 0), .long x1, .long x3, .int x5, .int x6])).length) Slot.unset).toArray = ls at hl ⊢
  have hl : lv_has ls 7 [(0, .ref (ad 0)), (1, .long x1), (3, .long x3), (5, .int x5), (6, .int x6)] := hl
  have hP : va_P (dC, dI) vwCl (xw 7 ad (mc ad ci r)) s.heap := hP
  unfold PX7_resting at h
  refine lv_aload_n hx hb dX7_resting_0 rfl (lv_at hl 0 rfl) ?_
  refine lv_iconst (v := (4 : Int32)) hx hb dX7_resting_1 (by decide) ?_
  refine lv_lload_n hx hb dX7_resting_2 rfl (lv_at hl 1 rfl) ?_
  refine lv_lload_n hx hb dX7_resting_3 rfl (lv_at hl 2 rfl) ?_
  refine lv_iload hx hb dX7_resting_4 (lv_at hl 3 rfl) ?_
  refine lv_iload hx hb dX7_resting_6 (lv_at hl 4 rfl) ?_
  refine va_calll (va_runV (As := [.int (4 : Int32), .long x1, .long x3, .int x5, .int x6]) (rest := []) ⟨hx, hb, C0.2.2.1, hown, hts⟩ (qX7_repeated l dC dI ad ci A hAD r (4 : Int32) x1 x3 x5 x6 _ h) (cwV 5 hts gX7_resting_X7_repeated rfl rfl rfl (by decide +kernel) ⟨Nat.le_of_ble_eq_true rfl, Nat.le_of_ble_eq_true rfl⟩) ⟨xr_blind, xr_recv (r := (RX7, TX7, 9)) hK hP 0 (by decide) me_M rfl, xr_pre hP hK⟩ rfl rfl hl.1 rfl (lv_room (Nat.le_of_ble_eq_true rfl)) dX7_resting_8 ⟨Nat.le_of_ble_eq_true rfl, Nat.le_of_ble_eq_true rfl⟩) hS (fun _ _ h => h) (fun _ h => h) (fun r_1 r_2 t9 H locs ht hvm h hB _ _ hS => ?_)
  refine W.cs (cells' := 0) (slots' := 0) rfl rfl ?_
  have hP := x_th ht hB
  have hP : va_P (dC, dI) vwCl (xw 7 ad (mc ad ci r_2)) H := hP
  exact W.lret (v := r_1) hx hb hr (fun t ht hW => ⟨⟨r_1, r_2, rfl, h, x_ht ht hP⟩, hS.F ht⟩) hS.2.2 dX7_resting_11
abbrev rmX7_loose : Room := { frames := 3, cells := 0, slots := 0, locals := 68 }
theorem wX7_loose_k73 : Cond.constantLong RX7 73 (-2000000001) ∈ wsX7_loose := by decide +kernel
theorem wX7_loose_k75 : Cond.constantLong RX7 75 (-2000000003) ∈ wsX7_loose := by decide +kernel
def PX7_loose  (r : MmV) (x1 : Int64) (x3 : Int64) (x5 : Int32) (post : Int64 → MmV → Prop) : Prop :=
  (PX7_isTick r x3 (fun (r_1 : Int32) => ((r_1 = 0 → post (-2000000001 : Int64) r) ∧ (¬ r_1 = 0 → (PX7_isIn x1 (0 : Int64) x3 (fun (r_3 : Int32) => ((r_3 = 0 → post (-2000000001 : Int64) r) ∧ (¬ r_3 = 0 → (PX7_freeOne r (fun (r_5 : Int32) => ((r_5 = (200 : Int32) → post (-2000000003 : Int64) r) ∧ (¬ r_5 = (200 : Int32) → (PX7_set r (2 : Int32) x5 (fun (r_7 : Int32) (r_8 : MmV) => (PX7_tick r_8 r_7 x3 (fun (r_9 : MmV) => (PX7_put r_9 r_7 (4 : Int32) x1 (fun (r_10 : MmV) => post (r_7.toInt64) r_10))))))))))))))))))
set_option maxHeartbeats 4000000 in
set_option maxRecDepth 100000 in
theorem qX7_loose (l : Launch) (dC : Nat → ClassId) (dI : Nat → Nat → Nat) (ad : Nat → Nat) (ci : Nat → ClassId) (A : Nat → Prop) (hAD : xw_D 7 ad A) (r : MmV) (x1 : Int64) (x3 : Int64) (x5 : Int32) (post : Int64 → MmV → Prop) (h : PX7_loose r x1 x3 x5 post) : Met l yX7_loose wsX7_loose rmX7_loose (va_Pc [.ref (ad 0), .long x1, .long x3, .int x5] (fun U => va_P (dC, dI) vwCl (xw 7 ad (mc ad ci r)) U.heap ∧ va_K (dC, dI) vwCl (xT ci) U)) (va_Ql (fun r9 (u : MmV) => post r9 u) (fun u t => va_P (dC, dI) vwCl (xw 7 ad (mc ad ci u)) t.heap) A) 0 0 A := by
  refine Met.ofW (cc := cX7_loose) (maxL := 7) (ret := (some .long)) (by decide) rfl ?_
  intro p e s m args below meth c s₁ B hml hv
  obtain ⟨eargs, hP, hK⟩ := hv
  have C0 : xC p s m args meth c cX7_loose 7 (some .long) RX7 wsX7_loose (dC, dI) (xT ci) := ⟨B.exec, B.bytes, hml, B.returns, B.notSynchronized, findClass_of_methodNamed B.named, atoms_spec (ws := wsX7_loose) B.pre, hK⟩
  obtain ⟨hx, hb, -, hr, hlocks, hown, hts, -⟩ := id C0
  have hS : va_S A s.heap s.heap [] := va_S.rf
  have hl := lv_entry ([.ref (ad 0), .long x1, .long x3, .int x5]) (n := 7) (Nat.le_of_ble_eq_true rfl)
  have ef : entryFrame m args 7 = entryFrame m ([.ref (ad 0), .long x1, .long x3, .int x5] : List Value).toArray 7 := by rw [eargs]
  rw [ef, lg_entry_eq]
  generalize (lg_sl ([.ref (ad 0), .long x1, .long x3, .int x5]) ++ List.replicate (7 - (lg_sl ([.ref (ad 0), .long x1, .long x3, .int x5])).length) Slot.unset).toArray = ls at hl ⊢
  have hl : lv_has ls 7 [(0, .ref (ad 0)), (1, .long x1), (3, .long x3), (5, .int x5)] := hl
  have hP : va_P (dC, dI) vwCl (xw 7 ad (mc ad ci r)) s.heap := hP
  unfold PX7_loose at h
  refine lv_aload_n hx hb dX7_loose_0 rfl (lv_at hl 0 rfl) ?_
  refine lv_lload_n hx hb dX7_loose_1 rfl (lv_at hl 2 rfl) ?_
  refine va_calli (va_runV (As := [.long x3]) (rest := []) ⟨hx, hb, C0.2.2.1, hown, hts⟩ (qX7_isTick l dC dI ad ci A hAD r x3 _ h) (cwV 1 hts gX7_loose_X7_isTick rfl rfl rfl (by decide +kernel) ⟨Nat.le_of_ble_eq_true rfl, Nat.le_of_ble_eq_true rfl⟩) ⟨xr_blind, xr_recv (r := (RX7, TX7, 9)) hK hP 0 (by decide) me_M rfl, xr_pre hP hK⟩ rfl rfl hl.1 rfl (lv_room (Nat.le_of_ble_eq_true rfl)) dX7_loose_2 ⟨Nat.le_of_ble_eq_true rfl, Nat.le_of_ble_eq_true rfl⟩) hS (fun _ _ h => h) (fun _ h => h) (fun r_1 _ t9 H locs ht hvm h hB _ _ hS => ?_)
  refine W.cs (cells' := 0) (slots' := 0) rfl rfl ?_
  have hP := x_th ht hB
  have hP : va_P (dC, dI) vwCl (xw 7 ad (mc ad ci r)) H := hP
  refine lv_if_eq (tgt := 17) hx hb dX7_loose_5 (by decide) (fun c_2 => ?_) (fun c_2 => ?_)
  · have h := h.1 c_2
    refine lv_ldc2 (v := (-2000000001 : Int64)) hx hb hown (hts _ wX7_loose_k73) dX7_loose_17 ?_
    exact W.lret (v := (-2000000001 : Int64)) hx hb hr (fun t ht hW => ⟨⟨(-2000000001 : Int64), r, rfl, h, x_ht ht hP⟩, hS.F ht⟩) hS.2.2 dX7_loose_20
  · have h := h.2 c_2
    refine lv_lload_n hx hb dX7_loose_8 rfl (lv_at hl 1 rfl) ?_
    refine lv_lconst (v := (0 : Int64)) hx hb dX7_loose_9 (by decide) ?_
    refine lv_lload_n hx hb dX7_loose_10 rfl (lv_at hl 2 rfl) ?_
    refine va_calli (va_runS (As := [.long x1, .long (0 : Int64), .long x3]) (rest := []) ⟨hx, hb, C0.2.2.1, hown, hts⟩ (qX7_isIn l dC dI 7 ad (mc ad ci r) (xT ci) A x1 (0 : Int64) x3 _ h) (va_cwS 3 hts gX7_loose_X7_isIn rfl rfl rfl (by decide +kernel) ⟨Nat.le_of_ble_eq_true rfl, Nat.le_of_ble_eq_true rfl⟩) ⟨xr_blind, xr_pre hP hK⟩ rfl rfl hl.1 rfl (lv_room (Nat.le_of_ble_eq_true rfl)) dX7_loose_11 ⟨Nat.le_of_ble_eq_true rfl, Nat.le_of_ble_eq_true rfl⟩) hS (fun _ _ h => h) (fun _ h => h) (fun r_3 _ t9 H locs ht hvm h hB _ _ hS => ?_)
    refine W.cs (cells' := 0) (slots' := 0) rfl rfl ?_
    have hP := x_th ht hB
    have hP : va_P (dC, dI) vwCl (xw 7 ad (mc ad ci r)) H := hP
    refine lv_if_ne (tgt := 21) hx hb dX7_loose_14 (by decide) (fun c_4 => ?_) (fun c_4 => ?_)
    · have h := h.2 c_4
      refine lv_aload_n hx hb dX7_loose_21 rfl (lv_at hl 0 rfl) ?_
      refine va_calli (va_runV (As := []) (rest := []) ⟨hx, hb, C0.2.2.1, hown, hts⟩ (qX7_freeOne l dC dI ad ci A hAD r  _ h) (cwV 0 hts gX7_loose_X7_freeOne rfl rfl rfl (by decide +kernel) ⟨Nat.le_of_ble_eq_true rfl, Nat.le_of_ble_eq_true rfl⟩) ⟨xr_blind, xr_recv (r := (RX7, TX7, 9)) hK hP 0 (by decide) me_M rfl, xr_pre hP hK⟩ rfl rfl hl.1 rfl (lv_room (Nat.le_of_ble_eq_true rfl)) dX7_loose_22 ⟨Nat.le_of_ble_eq_true rfl, Nat.le_of_ble_eq_true rfl⟩) hS (fun _ _ h => h) (fun _ h => h) (fun r_5 _ t9 H locs ht hvm h hB _ _ hS => ?_)
      refine W.cs (cells' := 0) (slots' := 0) rfl rfl ?_
      have hP := x_th ht hB
      have hP : va_P (dC, dI) vwCl (xw 7 ad (mc ad ci r)) H := hP
      refine lv_sipush (v := (200 : Int32)) hx hb dX7_loose_25 (by decide) ?_
      refine lv_icmp_ne (tgt := 35) hx hb dX7_loose_28 (by decide) (fun c_6 => ?_) (fun c_6 => ?_)
      · have h := h.2 c_6
        refine lv_aload_n hx hb dX7_loose_35 rfl (lv_at hl 0 rfl) ?_
        refine lv_iconst (v := (2 : Int32)) hx hb dX7_loose_36 (by decide) ?_
        refine lv_iload hx hb dX7_loose_37 (lv_at hl 3 rfl) ?_
        refine va_calli (va_runV (As := [.int (2 : Int32), .int x5]) (rest := []) ⟨hx, hb, C0.2.2.1, hown, hts⟩ (qX7_set l dC dI ad ci A hAD r (2 : Int32) x5 _ h) (cwV 2 hts gX7_loose_X7_set rfl rfl rfl (by decide +kernel) ⟨Nat.le_of_ble_eq_true rfl, Nat.le_of_ble_eq_true rfl⟩) ⟨xr_blind, xr_recv (r := (RX7, TX7, 9)) hK hP 0 (by decide) me_M rfl, xr_pre hP hK⟩ rfl rfl hl.1 rfl (lv_room (Nat.le_of_ble_eq_true rfl)) dX7_loose_39 ⟨Nat.le_of_ble_eq_true rfl, Nat.le_of_ble_eq_true rfl⟩) hS (fun _ _ h => h) (fun _ h => h) (fun r_7 r_8 t9 H locs ht hvm h hB _ _ hS => ?_)
        refine W.cs (cells' := 0) (slots' := 0) rfl rfl ?_
        have hP := x_th ht hB
        have hP : va_P (dC, dI) vwCl (xw 7 ad (mc ad ci r_8)) H := hP
        refine lv_istore (lv' := [(6, .int r_7), (0, .ref (ad 0)), (1, .long x1), (3, .long x3), (5, .int x5)]) hx hb dX7_loose_42 hl (by decide) rfl (fun ls hl => ?_)
        refine lv_aload_n hx hb dX7_loose_44 rfl (lv_at hl 1 rfl) ?_
        refine lv_iload hx hb dX7_loose_45 (lv_at hl 0 rfl) ?_
        refine lv_lload_n hx hb dX7_loose_47 rfl (lv_at hl 3 rfl) ?_
        refine va_callv (va_runV (As := [.int r_7, .long x3]) (rest := []) ⟨hx, hb, C0.2.2.1, hown, hts⟩ (qX7_tick l dC dI ad ci A hAD r_8 r_7 x3 _ h) (cwV 2 hts gX7_loose_X7_tick rfl rfl rfl (by decide +kernel) ⟨Nat.le_of_ble_eq_true rfl, Nat.le_of_ble_eq_true rfl⟩) ⟨xr_blind, xr_recv (r := (RX7, TX7, 9)) hK hP 0 (by decide) me_M rfl, xr_pre hP hK⟩ rfl rfl hl.1 rfl (lv_room (Nat.le_of_ble_eq_true rfl)) dX7_loose_48 ⟨Nat.le_of_ble_eq_true rfl, Nat.le_of_ble_eq_true rfl⟩) hS (fun _ _ h => h) (fun _ h => h) (fun r_9 t9 H locs ht hvm h hB _ _ hS => ?_)
        refine W.cs (cells' := 0) (slots' := 0) rfl rfl ?_
        have hP := x_th ht hB
        have hP : va_P (dC, dI) vwCl (xw 7 ad (mc ad ci r_9)) H := hP
        refine lv_aload_n hx hb dX7_loose_51 rfl (lv_at hl 1 rfl) ?_
        refine lv_iload hx hb dX7_loose_52 (lv_at hl 0 rfl) ?_
        refine lv_iconst (v := (4 : Int32)) hx hb dX7_loose_54 (by decide) ?_
        refine lv_lload_n hx hb dX7_loose_55 rfl (lv_at hl 2 rfl) ?_
        refine va_callv (va_runV (As := [.int r_7, .int (4 : Int32), .long x1]) (rest := []) ⟨hx, hb, C0.2.2.1, hown, hts⟩ (qX7_put l dC dI ad ci A hAD r_9 r_7 (4 : Int32) x1 _ h) (cwV 3 hts gX7_loose_X7_put rfl rfl rfl (by decide +kernel) ⟨Nat.le_of_ble_eq_true rfl, Nat.le_of_ble_eq_true rfl⟩) ⟨xr_blind, xr_recv (r := (RX7, TX7, 9)) hK hP 0 (by decide) me_M rfl, xr_pre hP hK⟩ rfl rfl hl.1 rfl (lv_room (Nat.le_of_ble_eq_true rfl)) dX7_loose_56 ⟨Nat.le_of_ble_eq_true rfl, Nat.le_of_ble_eq_true rfl⟩) hS (fun _ _ h => h) (fun _ h => h) (fun r_10 t9 H locs ht hvm h hB _ _ hS => ?_)
        refine W.cs (cells' := 0) (slots' := 0) rfl rfl ?_
        have hP := x_th ht hB
        have hP : va_P (dC, dI) vwCl (xw 7 ad (mc ad ci r_10)) H := hP
        refine lv_iload hx hb dX7_loose_59 (lv_at hl 0 rfl) ?_
        refine lv_i2l hx hb dX7_loose_61 rfl ?_
        exact W.lret (v := (r_7.toInt64)) hx hb hr (fun t ht hW => ⟨⟨(r_7.toInt64), r_10, rfl, h, x_ht ht hP⟩, hS.F ht⟩) hS.2.2 dX7_loose_62
      · have h := h.1 c_6
        refine lv_ldc2 (v := (-2000000003 : Int64)) hx hb hown (hts _ wX7_loose_k75) dX7_loose_31 ?_
        exact W.lret (v := (-2000000003 : Int64)) hx hb hr (fun t ht hW => ⟨⟨(-2000000003 : Int64), r, rfl, h, x_ht ht hP⟩, hS.F ht⟩) hS.2.2 dX7_loose_34
    · have h := h.1 c_4
      refine lv_ldc2 (v := (-2000000001 : Int64)) hx hb hown (hts _ wX7_loose_k73) dX7_loose_17 ?_
      exact W.lret (v := (-2000000001 : Int64)) hx hb hr (fun t ht hW => ⟨⟨(-2000000001 : Int64), r, rfl, h, x_ht ht hP⟩, hS.F ht⟩) hS.2.2 dX7_loose_20
abbrev rmX7_chained : Room := { frames := 3, cells := 0, slots := 0, locals := 68 }
theorem wX7_chained_k73 : Cond.constantLong RX7 73 (-2000000001) ∈ wsX7_chained := by decide +kernel
theorem wX7_chained_k67 : Cond.constantLong RX7 67 (1125899906842624) ∈ wsX7_chained := by decide +kernel
theorem wX7_chained_k75 : Cond.constantLong RX7 75 (-2000000003) ∈ wsX7_chained := by decide +kernel
def PX7_chained  (r : MmV) (x1 : Int32) (x2 : Int64) (x4 : Int64) (x6 : Int32) (post : Int64 → MmV → Prop) : Prop :=
  (PX7_isDue r x1 (fun (r_1 : Int32) => ((r_1 = 0 → post (-2000000001 : Int64) r) ∧ (¬ r_1 = 0 → (PX7_isIn x2 (1 : Int64) (1125899906842624 : Int64) (fun (r_3 : Int32) => ((r_3 = 0 → post (-2000000001 : Int64) r) ∧ (¬ r_3 = 0 → (PX7_isIn x4 (0 : Int64) (1125899906842624 : Int64) (fun (r_5 : Int32) => ((r_5 = 0 → post (-2000000001 : Int64) r) ∧ (¬ r_5 = 0 → (PX7_freeOne r (fun (r_7 : Int32) => ((r_7 = (200 : Int32) → post (-2000000003 : Int64) r) ∧ (¬ r_7 = (200 : Int32) → (PX7_set r (3 : Int32) x6 (fun (r_9 : Int32) (r_10 : MmV) => (PX7_put r_10 r_9 (7 : Int32) (x1.toInt64) (fun (r_11 : MmV) => (PX7_put r_11 r_9 (8 : Int32) x2 (fun (r_12 : MmV) => (PX7_put r_12 r_9 (9 : Int32) x4 (fun (r_13 : MmV) => post (r_9.toInt64) r_13))))))))))))))))))))))))
set_option maxHeartbeats 4000000 in
set_option maxRecDepth 100000 in
theorem qX7_chained (l : Launch) (dC : Nat → ClassId) (dI : Nat → Nat → Nat) (ad : Nat → Nat) (ci : Nat → ClassId) (A : Nat → Prop) (hAD : xw_D 7 ad A) (r : MmV) (x1 : Int32) (x2 : Int64) (x4 : Int64) (x6 : Int32) (post : Int64 → MmV → Prop) (h : PX7_chained r x1 x2 x4 x6 post) : Met l yX7_chained wsX7_chained rmX7_chained (va_Pc [.ref (ad 0), .int x1, .long x2, .long x4, .int x6] (fun U => va_P (dC, dI) vwCl (xw 7 ad (mc ad ci r)) U.heap ∧ va_K (dC, dI) vwCl (xT ci) U)) (va_Ql (fun r9 (u : MmV) => post r9 u) (fun u t => va_P (dC, dI) vwCl (xw 7 ad (mc ad ci u)) t.heap) A) 0 0 A := by
  refine Met.ofW (cc := cX7_chained) (maxL := 8) (ret := (some .long)) (by decide) rfl ?_
  intro p e s m args below meth c s₁ B hml hv
  obtain ⟨eargs, hP, hK⟩ := hv
  have C0 : xC p s m args meth c cX7_chained 8 (some .long) RX7 wsX7_chained (dC, dI) (xT ci) := ⟨B.exec, B.bytes, hml, B.returns, B.notSynchronized, findClass_of_methodNamed B.named, atoms_spec (ws := wsX7_chained) B.pre, hK⟩
  obtain ⟨hx, hb, -, hr, hlocks, hown, hts, -⟩ := id C0
  have hS : va_S A s.heap s.heap [] := va_S.rf
  have hl := lv_entry ([.ref (ad 0), .int x1, .long x2, .long x4, .int x6]) (n := 8) (Nat.le_of_ble_eq_true rfl)
  have ef : entryFrame m args 8 = entryFrame m ([.ref (ad 0), .int x1, .long x2, .long x4, .int x6] : List Value).toArray 8 := by rw [eargs]
  rw [ef, lg_entry_eq]
  generalize (lg_sl ([.ref (ad 0), .int x1, .long x2, .long x4, .int x6]) ++ List.replicate (8 - (lg_sl ([.ref (ad 0), .int x1, .long x2, .long x4, .int x6])).length) Slot.unset).toArray = ls at hl ⊢
  have hl : lv_has ls 8 [(0, .ref (ad 0)), (1, .int x1), (2, .long x2), (4, .long x4), (6, .int x6)] := hl
  have hP : va_P (dC, dI) vwCl (xw 7 ad (mc ad ci r)) s.heap := hP
  unfold PX7_chained at h
  refine lv_aload_n hx hb dX7_chained_0 rfl (lv_at hl 0 rfl) ?_
  refine lv_iload_n hx hb dX7_chained_1 rfl (lv_at hl 1 rfl) ?_
  refine va_calli (va_runV (As := [.int x1]) (rest := []) ⟨hx, hb, C0.2.2.1, hown, hts⟩ (qX7_isDue l dC dI ad ci A hAD r x1 _ h) (cwV 1 hts gX7_chained_X7_isDue rfl rfl rfl (by decide +kernel) ⟨Nat.le_of_ble_eq_true rfl, Nat.le_of_ble_eq_true rfl⟩) ⟨xr_blind, xr_recv (r := (RX7, TX7, 9)) hK hP 0 (by decide) me_M rfl, xr_pre hP hK⟩ rfl rfl hl.1 rfl (lv_room (Nat.le_of_ble_eq_true rfl)) dX7_chained_2 ⟨Nat.le_of_ble_eq_true rfl, Nat.le_of_ble_eq_true rfl⟩) hS (fun _ _ h => h) (fun _ h => h) (fun r_1 _ t9 H locs ht hvm h hB _ _ hS => ?_)
  refine W.cs (cells' := 0) (slots' := 0) rfl rfl ?_
  have hP := x_th ht hB
  have hP : va_P (dC, dI) vwCl (xw 7 ad (mc ad ci r)) H := hP
  refine lv_if_eq (tgt := 31) hx hb dX7_chained_5 (by decide) (fun c_2 => ?_) (fun c_2 => ?_)
  · have h := h.1 c_2
    refine lv_ldc2 (v := (-2000000001 : Int64)) hx hb hown (hts _ wX7_chained_k73) dX7_chained_31 ?_
    exact W.lret (v := (-2000000001 : Int64)) hx hb hr (fun t ht hW => ⟨⟨(-2000000001 : Int64), r, rfl, h, x_ht ht hP⟩, hS.F ht⟩) hS.2.2 dX7_chained_34
  · have h := h.2 c_2
    refine lv_lload_n hx hb dX7_chained_8 rfl (lv_at hl 2 rfl) ?_
    refine lv_lconst (v := (1 : Int64)) hx hb dX7_chained_9 (by decide) ?_
    refine lv_ldc2 (v := (1125899906842624 : Int64)) hx hb hown (hts _ wX7_chained_k67) dX7_chained_10 ?_
    refine va_calli (va_runS (As := [.long x2, .long (1 : Int64), .long (1125899906842624 : Int64)]) (rest := []) ⟨hx, hb, C0.2.2.1, hown, hts⟩ (qX7_isIn l dC dI 7 ad (mc ad ci r) (xT ci) A x2 (1 : Int64) (1125899906842624 : Int64) _ h) (va_cwS 3 hts gX7_chained_X7_isIn rfl rfl rfl (by decide +kernel) ⟨Nat.le_of_ble_eq_true rfl, Nat.le_of_ble_eq_true rfl⟩) ⟨xr_blind, xr_pre hP hK⟩ rfl rfl hl.1 rfl (lv_room (Nat.le_of_ble_eq_true rfl)) dX7_chained_13 ⟨Nat.le_of_ble_eq_true rfl, Nat.le_of_ble_eq_true rfl⟩) hS (fun _ _ h => h) (fun _ h => h) (fun r_3 _ t9 H locs ht hvm h hB _ _ hS => ?_)
    refine W.cs (cells' := 0) (slots' := 0) rfl rfl ?_
    have hP := x_th ht hB
    have hP : va_P (dC, dI) vwCl (xw 7 ad (mc ad ci r)) H := hP
    refine lv_if_eq (tgt := 31) hx hb dX7_chained_16 (by decide) (fun c_4 => ?_) (fun c_4 => ?_)
    · have h := h.1 c_4
      refine lv_ldc2 (v := (-2000000001 : Int64)) hx hb hown (hts _ wX7_chained_k73) dX7_chained_31 ?_
      exact W.lret (v := (-2000000001 : Int64)) hx hb hr (fun t ht hW => ⟨⟨(-2000000001 : Int64), r, rfl, h, x_ht ht hP⟩, hS.F ht⟩) hS.2.2 dX7_chained_34
    · have h := h.2 c_4
      refine lv_lload hx hb dX7_chained_19 (lv_at hl 3 rfl) ?_
      refine lv_lconst (v := (0 : Int64)) hx hb dX7_chained_21 (by decide) ?_
      refine lv_ldc2 (v := (1125899906842624 : Int64)) hx hb hown (hts _ wX7_chained_k67) dX7_chained_22 ?_
      refine va_calli (va_runS (As := [.long x4, .long (0 : Int64), .long (1125899906842624 : Int64)]) (rest := []) ⟨hx, hb, C0.2.2.1, hown, hts⟩ (qX7_isIn l dC dI 7 ad (mc ad ci r) (xT ci) A x4 (0 : Int64) (1125899906842624 : Int64) _ h) (va_cwS 3 hts gX7_chained_X7_isIn rfl rfl rfl (by decide +kernel) ⟨Nat.le_of_ble_eq_true rfl, Nat.le_of_ble_eq_true rfl⟩) ⟨xr_blind, xr_pre hP hK⟩ rfl rfl hl.1 rfl (lv_room (Nat.le_of_ble_eq_true rfl)) dX7_chained_25 ⟨Nat.le_of_ble_eq_true rfl, Nat.le_of_ble_eq_true rfl⟩) hS (fun _ _ h => h) (fun _ h => h) (fun r_5 _ t9 H locs ht hvm h hB _ _ hS => ?_)
      refine W.cs (cells' := 0) (slots' := 0) rfl rfl ?_
      have hP := x_th ht hB
      have hP : va_P (dC, dI) vwCl (xw 7 ad (mc ad ci r)) H := hP
      refine lv_if_ne (tgt := 35) hx hb dX7_chained_28 (by decide) (fun c_6 => ?_) (fun c_6 => ?_)
      · have h := h.2 c_6
        refine lv_aload_n hx hb dX7_chained_35 rfl (lv_at hl 0 rfl) ?_
        refine va_calli (va_runV (As := []) (rest := []) ⟨hx, hb, C0.2.2.1, hown, hts⟩ (qX7_freeOne l dC dI ad ci A hAD r  _ h) (cwV 0 hts gX7_chained_X7_freeOne rfl rfl rfl (by decide +kernel) ⟨Nat.le_of_ble_eq_true rfl, Nat.le_of_ble_eq_true rfl⟩) ⟨xr_blind, xr_recv (r := (RX7, TX7, 9)) hK hP 0 (by decide) me_M rfl, xr_pre hP hK⟩ rfl rfl hl.1 rfl (lv_room (Nat.le_of_ble_eq_true rfl)) dX7_chained_36 ⟨Nat.le_of_ble_eq_true rfl, Nat.le_of_ble_eq_true rfl⟩) hS (fun _ _ h => h) (fun _ h => h) (fun r_7 _ t9 H locs ht hvm h hB _ _ hS => ?_)
        refine W.cs (cells' := 0) (slots' := 0) rfl rfl ?_
        have hP := x_th ht hB
        have hP : va_P (dC, dI) vwCl (xw 7 ad (mc ad ci r)) H := hP
        refine lv_sipush (v := (200 : Int32)) hx hb dX7_chained_39 (by decide) ?_
        refine lv_icmp_ne (tgt := 49) hx hb dX7_chained_42 (by decide) (fun c_8 => ?_) (fun c_8 => ?_)
        · have h := h.2 c_8
          refine lv_aload_n hx hb dX7_chained_49 rfl (lv_at hl 0 rfl) ?_
          refine lv_iconst (v := (3 : Int32)) hx hb dX7_chained_50 (by decide) ?_
          refine lv_iload hx hb dX7_chained_51 (lv_at hl 4 rfl) ?_
          refine va_calli (va_runV (As := [.int (3 : Int32), .int x6]) (rest := []) ⟨hx, hb, C0.2.2.1, hown, hts⟩ (qX7_set l dC dI ad ci A hAD r (3 : Int32) x6 _ h) (cwV 2 hts gX7_chained_X7_set rfl rfl rfl (by decide +kernel) ⟨Nat.le_of_ble_eq_true rfl, Nat.le_of_ble_eq_true rfl⟩) ⟨xr_blind, xr_recv (r := (RX7, TX7, 9)) hK hP 0 (by decide) me_M rfl, xr_pre hP hK⟩ rfl rfl hl.1 rfl (lv_room (Nat.le_of_ble_eq_true rfl)) dX7_chained_53 ⟨Nat.le_of_ble_eq_true rfl, Nat.le_of_ble_eq_true rfl⟩) hS (fun _ _ h => h) (fun _ h => h) (fun r_9 r_10 t9 H locs ht hvm h hB _ _ hS => ?_)
          refine W.cs (cells' := 0) (slots' := 0) rfl rfl ?_
          have hP := x_th ht hB
          have hP : va_P (dC, dI) vwCl (xw 7 ad (mc ad ci r_10)) H := hP
          refine lv_istore (lv' := [(7, .int r_9), (0, .ref (ad 0)), (1, .int x1), (2, .long x2), (4, .long x4), (6, .int x6)]) hx hb dX7_chained_56 hl (by decide) rfl (fun ls hl => ?_)
          refine lv_aload_n hx hb dX7_chained_58 rfl (lv_at hl 1 rfl) ?_
          refine lv_iload hx hb dX7_chained_59 (lv_at hl 0 rfl) ?_
          refine lv_bipush (v := (7 : Int32)) hx hb dX7_chained_61 (by decide) ?_
          refine lv_iload_n hx hb dX7_chained_63 rfl (lv_at hl 2 rfl) ?_
          refine lv_i2l hx hb dX7_chained_64 rfl ?_
          refine va_callv (va_runV (As := [.int r_9, .int (7 : Int32), .long (x1.toInt64)]) (rest := []) ⟨hx, hb, C0.2.2.1, hown, hts⟩ (qX7_put l dC dI ad ci A hAD r_10 r_9 (7 : Int32) (x1.toInt64) _ h) (cwV 3 hts gX7_chained_X7_put rfl rfl rfl (by decide +kernel) ⟨Nat.le_of_ble_eq_true rfl, Nat.le_of_ble_eq_true rfl⟩) ⟨xr_blind, xr_recv (r := (RX7, TX7, 9)) hK hP 0 (by decide) me_M rfl, xr_pre hP hK⟩ rfl rfl hl.1 rfl (lv_room (Nat.le_of_ble_eq_true rfl)) dX7_chained_65 ⟨Nat.le_of_ble_eq_true rfl, Nat.le_of_ble_eq_true rfl⟩) hS (fun _ _ h => h) (fun _ h => h) (fun r_11 t9 H locs ht hvm h hB _ _ hS => ?_)
          refine W.cs (cells' := 0) (slots' := 0) rfl rfl ?_
          have hP := x_th ht hB
          have hP : va_P (dC, dI) vwCl (xw 7 ad (mc ad ci r_11)) H := hP
          refine lv_aload_n hx hb dX7_chained_68 rfl (lv_at hl 1 rfl) ?_
          refine lv_iload hx hb dX7_chained_69 (lv_at hl 0 rfl) ?_
          refine lv_bipush (v := (8 : Int32)) hx hb dX7_chained_71 (by decide) ?_
          refine lv_lload_n hx hb dX7_chained_73 rfl (lv_at hl 3 rfl) ?_
          refine va_callv (va_runV (As := [.int r_9, .int (8 : Int32), .long x2]) (rest := []) ⟨hx, hb, C0.2.2.1, hown, hts⟩ (qX7_put l dC dI ad ci A hAD r_11 r_9 (8 : Int32) x2 _ h) (cwV 3 hts gX7_chained_X7_put rfl rfl rfl (by decide +kernel) ⟨Nat.le_of_ble_eq_true rfl, Nat.le_of_ble_eq_true rfl⟩) ⟨xr_blind, xr_recv (r := (RX7, TX7, 9)) hK hP 0 (by decide) me_M rfl, xr_pre hP hK⟩ rfl rfl hl.1 rfl (lv_room (Nat.le_of_ble_eq_true rfl)) dX7_chained_74 ⟨Nat.le_of_ble_eq_true rfl, Nat.le_of_ble_eq_true rfl⟩) hS (fun _ _ h => h) (fun _ h => h) (fun r_12 t9 H locs ht hvm h hB _ _ hS => ?_)
          refine W.cs (cells' := 0) (slots' := 0) rfl rfl ?_
          have hP := x_th ht hB
          have hP : va_P (dC, dI) vwCl (xw 7 ad (mc ad ci r_12)) H := hP
          refine lv_aload_n hx hb dX7_chained_77 rfl (lv_at hl 1 rfl) ?_
          refine lv_iload hx hb dX7_chained_78 (lv_at hl 0 rfl) ?_
          refine lv_bipush (v := (9 : Int32)) hx hb dX7_chained_80 (by decide) ?_
          refine lv_lload hx hb dX7_chained_82 (lv_at hl 4 rfl) ?_
          refine va_callv (va_runV (As := [.int r_9, .int (9 : Int32), .long x4]) (rest := []) ⟨hx, hb, C0.2.2.1, hown, hts⟩ (qX7_put l dC dI ad ci A hAD r_12 r_9 (9 : Int32) x4 _ h) (cwV 3 hts gX7_chained_X7_put rfl rfl rfl (by decide +kernel) ⟨Nat.le_of_ble_eq_true rfl, Nat.le_of_ble_eq_true rfl⟩) ⟨xr_blind, xr_recv (r := (RX7, TX7, 9)) hK hP 0 (by decide) me_M rfl, xr_pre hP hK⟩ rfl rfl hl.1 rfl (lv_room (Nat.le_of_ble_eq_true rfl)) dX7_chained_84 ⟨Nat.le_of_ble_eq_true rfl, Nat.le_of_ble_eq_true rfl⟩) hS (fun _ _ h => h) (fun _ h => h) (fun r_13 t9 H locs ht hvm h hB _ _ hS => ?_)
          refine W.cs (cells' := 0) (slots' := 0) rfl rfl ?_
          have hP := x_th ht hB
          have hP : va_P (dC, dI) vwCl (xw 7 ad (mc ad ci r_13)) H := hP
          refine lv_iload hx hb dX7_chained_87 (lv_at hl 0 rfl) ?_
          refine lv_i2l hx hb dX7_chained_89 rfl ?_
          exact W.lret (v := (r_9.toInt64)) hx hb hr (fun t ht hW => ⟨⟨(r_9.toInt64), r_13, rfl, h, x_ht ht hP⟩, hS.F ht⟩) hS.2.2 dX7_chained_90
        · have h := h.1 c_8
          refine lv_ldc2 (v := (-2000000003 : Int64)) hx hb hown (hts _ wX7_chained_k75) dX7_chained_45 ?_
          exact W.lret (v := (-2000000003 : Int64)) hx hb hr (fun t ht hW => ⟨⟨(-2000000003 : Int64), r, rfl, h, x_ht ht hP⟩, hS.F ht⟩) hS.2.2 dX7_chained_48
      · have h := h.1 c_6
        refine lv_ldc2 (v := (-2000000001 : Int64)) hx hb hown (hts _ wX7_chained_k73) dX7_chained_31 ?_
        exact W.lret (v := (-2000000001 : Int64)) hx hb hr (fun t ht hW => ⟨⟨(-2000000001 : Int64), r, rfl, h, x_ht ht hP⟩, hS.F ht⟩) hS.2.2 dX7_chained_34
abbrev rmX7_drop : Room := { frames := 3, cells := 0, slots := 0, locals := 67 }
theorem wX7_drop_k48 : Cond.constantLong RX7 48 (-2000000005) ∈ wsX7_drop := by decide +kernel
theorem wX7_drop_c7 : ∀ w ∈ u_ws RX7 TX7 9, w ∈ wsX7_drop := by decide +kernel
theorem wX7_drop_f7 : Cond.fieldLink RX7 7 "DueWheelsModel" "s" "[J" ∈ wsX7_drop := by decide +kernel
theorem wX7_drop_k73 : Cond.constantLong RX7 73 (-2000000001) ∈ wsX7_drop := by decide +kernel
def LX7_drop_33   (x1 : Int32) (x2 : Int64)  (post : Int64 → MmV → Prop) : Nat → Int32 → MmV → Prop
  | 0, _, _ => False
  | n + 1, x4, r => (((200 : Int32) ≤ x4 → post x2 r) ∧ (¬ (200 : Int32) ≤ x4 → (PX7_waits r x4 (fun (r_7 : Int32) => ((r_7 = 0 → ∀ x4_9 : Int32, x4_9 = x4 + 1 → LX7_drop_33  x1 x2 post n x4_9 r) ∧ (¬ r_7 = 0 → (PX7_get r x4 (7 : Int32) (fun (r_10 : Int64) => ((r_10 = (x1.toInt64) → (PX7_put r x4 (7 : Int32) (-2000000005 : Int64) (fun (r_13 : MmV) => (PX7_get r_13 x4 (9 : Int32) (fun (r_14 : Int64) => ((r_14 ≤ (m_s r_13 3700) → (PX7_tick r_13 x4 ((m_s r_13 3700) + (1 : Int64)) (fun (r_16 : MmV) => ∀ x4_17 : Int32, x4_17 = x4 + 1 → LX7_drop_33  x1 x2 post n x4_17 r_16))) ∧ (¬ r_14 ≤ (m_s r_13 3700) → (PX7_tick r_13 x4 r_14 (fun (r_18 : MmV) => ∀ x4_19 : Int32, x4_19 = x4 + 1 → LX7_drop_33  x1 x2 post n x4_19 r_18))))))))) ∧ (¬ r_10 = (x1.toInt64) → ∀ x4_12 : Int32, x4_12 = x4 + 1 → LX7_drop_33  x1 x2 post n x4_12 r))))))))))
set_option maxHeartbeats 4000000 in
set_option maxRecDepth 100000 in
theorem kX7_drop_33 {p : Program} {e : Env} {s : State} {m : MethodId} {args : Array Value} {below : List Frame} {meth : Method} {c : Code} (l : Launch) (dC : Nat → ClassId) (dI : Nat → Nat → Nat) (ad : Nat → Nat) (ci : Nat → ClassId) (A : Nat → Prop) (hAD : xw_D 7 ad A)  (x1 : Int32) (x2 : Int64)  (post : Int64 → MmV → Prop) (C0 : xC p s m args meth c cX7_drop 7 (some .long) RX7 wsX7_drop (dC, dI) (xT ci)) : ∀ (n : Nat) (x4 : Int32) (r : MmV) (H : Heap) (locs : List Loc) (ls : Array Slot), LX7_drop_33  x1 x2 post n x4 r → va_P (dC, dI) vwCl (xw 7 ad (mc ad ci r)) H → va_S A s.heap H locs → lv_has ls 7 [(0, .ref (ad 0)), (1, .int x1), (2, .long x2), (4, .int x4)] → W p l e rmX7_drop s m args below meth c H locs 0 0 (MQ below (va_Ql (fun r9 (u : MmV) => post r9 u) (fun u t => va_P (dC, dI) vwCl (xw 7 ad (mc ad ci u)) t.heap) A) args s 0 0 A) (F0 m 33 ls []) := by
  obtain ⟨hx, hb, -, hr, hlocks, hown, hts, hK⟩ := id C0
  intro n
  induction n with
  | zero =>
    intro x4 r H locs ls h
    exact False.elim h
  | succ n ih =>
    intro x4 r H locs ls h hP hS hl
    rw [LX7_drop_33] at h
    refine lv_iload hx hb dX7_drop_33 (lv_at hl 3 rfl) ?_
    refine lv_sipush (v := (200 : Int32)) hx hb dX7_drop_35 (by decide) ?_
    refine lv_icmp_ge (tgt := 126) hx hb dX7_drop_38 (by decide) (fun c_6 => ?_) (fun c_6 => ?_)
    · have h := h.1 c_6
      refine lv_lload_n hx hb dX7_drop_126 rfl (lv_at hl 2 rfl) ?_
      exact W.lret (v := x2) hx hb hr (fun t ht hW => ⟨⟨x2, r, rfl, h, x_ht ht hP⟩, hS.F ht⟩) hS.2.2 dX7_drop_127
    · have h := h.2 c_6
      refine lv_aload_n hx hb dX7_drop_41 rfl (lv_at hl 0 rfl) ?_
      refine lv_iload hx hb dX7_drop_42 (lv_at hl 3 rfl) ?_
      refine va_calli (va_runV (As := [.int x4]) (rest := []) ⟨hx, hb, C0.2.2.1, hown, hts⟩ (qX7_waits l dC dI ad ci A hAD r x4 _ h) (cwV 1 hts gX7_drop_X7_waits rfl rfl rfl (by decide +kernel) ⟨Nat.le_of_ble_eq_true rfl, Nat.le_of_ble_eq_true rfl⟩) ⟨xr_blind, xr_recv (r := (RX7, TX7, 9)) hK hP 0 (by decide) me_M rfl, xr_pre hP hK⟩ rfl rfl hl.1 rfl (lv_room (Nat.le_of_ble_eq_true rfl)) dX7_drop_44 ⟨Nat.le_of_ble_eq_true rfl, Nat.le_of_ble_eq_true rfl⟩) hS (fun _ _ h => h) (fun _ h => h) (fun r_7 _ t9 H locs ht hvm h hB _ _ hS => ?_)
      refine W.cs (cells' := 0) (slots' := 0) rfl rfl ?_
      have hP := x_th ht hB
      have hP : va_P (dC, dI) vwCl (xw 7 ad (mc ad ci r)) H := hP
      refine lv_if_eq (tgt := 120) hx hb dX7_drop_47 (by decide) (fun c_8 => ?_) (fun c_8 => ?_)
      · have h := h.1 c_8
        obtain ⟨x4_9, ex4_9⟩ : ∃ z : Int32, z = x4 + 1 := ⟨_, rfl⟩
        have h := h x4_9 ex4_9
        refine lv_iinc (v := x4_9) (lv' := [(4, .int x4_9), (0, .ref (ad 0)), (1, .int x1), (2, .long x2)]) hx hb dX7_drop_120 hl (k := 3) rfl (by rw [ex4_9]; rfl) (by decide) rfl (fun ls hl => ?_)
        refine lv_goto (tgt := 33) hx hb dX7_drop_123 (by decide) ?_
        exact ih x4_9 r _ _ _ h hP hS (lv_sub hl [1, 2, 3, 0] rfl)
      · have h := h.2 c_8
        refine lv_aload_n hx hb dX7_drop_50 rfl (lv_at hl 0 rfl) ?_
        refine lv_iload hx hb dX7_drop_51 (lv_at hl 3 rfl) ?_
        refine lv_bipush (v := (7 : Int32)) hx hb dX7_drop_53 (by decide) ?_
        refine va_calll (va_runV (As := [.int x4, .int (7 : Int32)]) (rest := []) ⟨hx, hb, C0.2.2.1, hown, hts⟩ (qX7_get l dC dI ad ci A hAD r x4 (7 : Int32) _ h) (cwV 2 hts gX7_drop_X7_get rfl rfl rfl (by decide +kernel) ⟨Nat.le_of_ble_eq_true rfl, Nat.le_of_ble_eq_true rfl⟩) ⟨xr_blind, xr_recv (r := (RX7, TX7, 9)) hK hP 0 (by decide) me_M rfl, xr_pre hP hK⟩ rfl rfl hl.1 rfl (lv_room (Nat.le_of_ble_eq_true rfl)) dX7_drop_55 ⟨Nat.le_of_ble_eq_true rfl, Nat.le_of_ble_eq_true rfl⟩) hS (fun _ _ h => h) (fun _ h => h) (fun r_10 _ t9 H locs ht hvm h hB _ _ hS => ?_)
        refine W.cs (cells' := 0) (slots' := 0) rfl rfl ?_
        have hP := x_th ht hB
        have hP : va_P (dC, dI) vwCl (xw 7 ad (mc ad ci r)) H := hP
        refine lv_iload_n hx hb dX7_drop_58 rfl (lv_at hl 1 rfl) ?_
        refine lv_i2l hx hb dX7_drop_59 rfl ?_
        refine xr_if_lcmp_ne (tgt := 120) hx hb dX7_drop_60 dX7_drop_61 (by decide) (fun c_11 => ?_) (fun c_11 => ?_)
        · have h := h.2 c_11
          obtain ⟨x4_12, ex4_12⟩ : ∃ z : Int32, z = x4 + 1 := ⟨_, rfl⟩
          have h := h x4_12 ex4_12
          refine lv_iinc (v := x4_12) (lv' := [(4, .int x4_12), (0, .ref (ad 0)), (1, .int x1), (2, .long x2)]) hx hb dX7_drop_120 hl (k := 3) rfl (by rw [ex4_12]; rfl) (by decide) rfl (fun ls hl => ?_)
          refine lv_goto (tgt := 33) hx hb dX7_drop_123 (by decide) ?_
          exact ih x4_12 r _ _ _ h hP hS (lv_sub hl [1, 2, 3, 0] rfl)
        · have h := h.1 c_11
          refine lv_aload_n hx hb dX7_drop_64 rfl (lv_at hl 0 rfl) ?_
          refine lv_iload hx hb dX7_drop_65 (lv_at hl 3 rfl) ?_
          refine lv_bipush (v := (7 : Int32)) hx hb dX7_drop_67 (by decide) ?_
          refine lv_ldc2 (v := (-2000000005 : Int64)) hx hb hown (hts _ wX7_drop_k48) dX7_drop_69 ?_
          refine va_callv (va_runV (As := [.int x4, .int (7 : Int32), .long (-2000000005 : Int64)]) (rest := []) ⟨hx, hb, C0.2.2.1, hown, hts⟩ (qX7_put l dC dI ad ci A hAD r x4 (7 : Int32) (-2000000005 : Int64) _ h) (cwV 3 hts gX7_drop_X7_put rfl rfl rfl (by decide +kernel) ⟨Nat.le_of_ble_eq_true rfl, Nat.le_of_ble_eq_true rfl⟩) ⟨xr_blind, xr_recv (r := (RX7, TX7, 9)) hK hP 0 (by decide) me_M rfl, xr_pre hP hK⟩ rfl rfl hl.1 rfl (lv_room (Nat.le_of_ble_eq_true rfl)) dX7_drop_72 ⟨Nat.le_of_ble_eq_true rfl, Nat.le_of_ble_eq_true rfl⟩) hS (fun _ _ h => h) (fun _ h => h) (fun r_13 t9 H locs ht hvm h hB _ _ hS => ?_)
          refine W.cs (cells' := 0) (slots' := 0) rfl rfl ?_
          have hP := x_th ht hB
          have hP : va_P (dC, dI) vwCl (xw 7 ad (mc ad ci r_13)) H := hP
          refine lv_aload_n hx hb dX7_drop_75 rfl (lv_at hl 0 rfl) ?_
          refine lv_iload hx hb dX7_drop_76 (lv_at hl 3 rfl) ?_
          refine lv_bipush (v := (9 : Int32)) hx hb dX7_drop_78 (by decide) ?_
          refine va_calll (va_runV (As := [.int x4, .int (9 : Int32)]) (rest := []) ⟨hx, hb, C0.2.2.1, hown, hts⟩ (qX7_get l dC dI ad ci A hAD r_13 x4 (9 : Int32) _ h) (cwV 2 hts gX7_drop_X7_get rfl rfl rfl (by decide +kernel) ⟨Nat.le_of_ble_eq_true rfl, Nat.le_of_ble_eq_true rfl⟩) ⟨xr_blind, xr_recv (r := (RX7, TX7, 9)) hK hP 0 (by decide) me_M rfl, xr_pre hP hK⟩ rfl rfl hl.1 rfl (lv_room (Nat.le_of_ble_eq_true rfl)) dX7_drop_80 ⟨Nat.le_of_ble_eq_true rfl, Nat.le_of_ble_eq_true rfl⟩) hS (fun _ _ h => h) (fun _ h => h) (fun r_14 _ t9 H locs ht hvm h hB _ _ hS => ?_)
          refine W.cs (cells' := 0) (slots' := 0) rfl rfl ?_
          have hP := x_th ht hB
          have hP : va_P (dC, dI) vwCl (xw 7 ad (mc ad ci r_13)) H := hP
          refine lv_lstore (lv' := [(5, .long r_14), (0, .ref (ad 0)), (1, .int x1), (2, .long x2), (4, .int x4)]) hx hb dX7_drop_83 hl (by decide) rfl (fun ls hl => ?_)
          refine lv_aload_n hx hb dX7_drop_85 rfl (lv_at hl 1 rfl) ?_
          refine lv_iload hx hb dX7_drop_86 (lv_at hl 4 rfl) ?_
          refine lv_lload hx hb dX7_drop_88 (lv_at hl 0 rfl) ?_
          refine lv_aload_n hx hb dX7_drop_90 rfl (lv_at hl 1 rfl) ?_
          refine xr_get (D := (dC, dI)) (C := RX7) (T := TX7) (N := 9) (v := .ref (ad 1)) hx hb hts wX7_drop_c7 hown hK hP 0 (by decide) me_M rfl 0 (by decide) wX7_drop_f7 rfl rfl dX7_drop_91 ?_
          refine lv_sipush (v := (3700 : Int32)) hx hb dX7_drop_94 (by decide) ?_
          refine xr_lald (k := 3700) hx hb hK hP 1 1 (by decide) me_s rfl rfl (x_in _ _ (by decide)) dX7_drop_97 ?_
          refine xr_if_lcmp_le (tgt := 107) hx hb dX7_drop_98 dX7_drop_99 (by decide) (fun c_15 => ?_) (fun c_15 => ?_)
          · have h := h.1 c_15
            refine lv_aload_n hx hb dX7_drop_107 rfl (lv_at hl 1 rfl) ?_
            refine xr_get (D := (dC, dI)) (C := RX7) (T := TX7) (N := 9) (v := .ref (ad 1)) hx hb hts wX7_drop_c7 hown hK hP 0 (by decide) me_M rfl 0 (by decide) wX7_drop_f7 rfl rfl dX7_drop_108 ?_
            refine lv_sipush (v := (3700 : Int32)) hx hb dX7_drop_111 (by decide) ?_
            refine xr_lald (k := 3700) hx hb hK hP 1 1 (by decide) me_s rfl rfl (x_in _ _ (by decide)) dX7_drop_114 ?_
            refine lv_lconst (v := (1 : Int64)) hx hb dX7_drop_115 (by decide) ?_
            refine lv_ladd hx hb dX7_drop_116 ?_
            refine va_callv (va_runV (As := [.int x4, .long ((m_s r_13 3700) + (1 : Int64))]) (rest := []) ⟨hx, hb, C0.2.2.1, hown, hts⟩ (qX7_tick l dC dI ad ci A hAD r_13 x4 ((m_s r_13 3700) + (1 : Int64)) _ h) (cwV 2 hts gX7_drop_X7_tick rfl rfl rfl (by decide +kernel) ⟨Nat.le_of_ble_eq_true rfl, Nat.le_of_ble_eq_true rfl⟩) ⟨xr_blind, xr_recv (r := (RX7, TX7, 9)) hK hP 0 (by decide) me_M rfl, xr_pre hP hK⟩ rfl rfl hl.1 rfl (lv_room (Nat.le_of_ble_eq_true rfl)) dX7_drop_117 ⟨Nat.le_of_ble_eq_true rfl, Nat.le_of_ble_eq_true rfl⟩) hS (fun _ _ h => h) (fun _ h => h) (fun r_16 t9 H locs ht hvm h hB _ _ hS => ?_)
            refine W.cs (cells' := 0) (slots' := 0) rfl rfl ?_
            have hP := x_th ht hB
            have hP : va_P (dC, dI) vwCl (xw 7 ad (mc ad ci r_16)) H := hP
            obtain ⟨x4_17, ex4_17⟩ : ∃ z : Int32, z = x4 + 1 := ⟨_, rfl⟩
            have h := h x4_17 ex4_17
            refine lv_iinc (v := x4_17) (lv' := [(4, .int x4_17), (5, .long r_14), (0, .ref (ad 0)), (1, .int x1), (2, .long x2)]) hx hb dX7_drop_120 hl (k := 4) rfl (by rw [ex4_17]; rfl) (by decide) rfl (fun ls hl => ?_)
            refine lv_goto (tgt := 33) hx hb dX7_drop_123 (by decide) ?_
            exact ih x4_17 r_16 _ _ _ h hP hS (lv_sub hl [2, 3, 4, 0] rfl)
          · have h := h.2 c_15
            refine lv_lload hx hb dX7_drop_102 (lv_at hl 0 rfl) ?_
            refine lv_goto (tgt := 117) hx hb dX7_drop_104 (by decide) ?_
            refine va_callv (va_runV (As := [.int x4, .long r_14]) (rest := []) ⟨hx, hb, C0.2.2.1, hown, hts⟩ (qX7_tick l dC dI ad ci A hAD r_13 x4 r_14 _ h) (cwV 2 hts gX7_drop_X7_tick rfl rfl rfl (by decide +kernel) ⟨Nat.le_of_ble_eq_true rfl, Nat.le_of_ble_eq_true rfl⟩) ⟨xr_blind, xr_recv (r := (RX7, TX7, 9)) hK hP 0 (by decide) me_M rfl, xr_pre hP hK⟩ rfl rfl hl.1 rfl (lv_room (Nat.le_of_ble_eq_true rfl)) dX7_drop_117 ⟨Nat.le_of_ble_eq_true rfl, Nat.le_of_ble_eq_true rfl⟩) hS (fun _ _ h => h) (fun _ h => h) (fun r_18 t9 H locs ht hvm h hB _ _ hS => ?_)
            refine W.cs (cells' := 0) (slots' := 0) rfl rfl ?_
            have hP := x_th ht hB
            have hP : va_P (dC, dI) vwCl (xw 7 ad (mc ad ci r_18)) H := hP
            obtain ⟨x4_19, ex4_19⟩ : ∃ z : Int32, z = x4 + 1 := ⟨_, rfl⟩
            have h := h x4_19 ex4_19
            refine lv_iinc (v := x4_19) (lv' := [(4, .int x4_19), (5, .long r_14), (0, .ref (ad 0)), (1, .int x1), (2, .long x2)]) hx hb dX7_drop_120 hl (k := 4) rfl (by rw [ex4_19]; rfl) (by decide) rfl (fun ls hl => ?_)
            refine lv_goto (tgt := 33) hx hb dX7_drop_123 (by decide) ?_
            exact ih x4_19 r_18 _ _ _ h hP hS (lv_sub hl [2, 3, 4, 0] rfl)
def PX7_drop  (r : MmV) (x1 : Int32) (post : Int64 → MmV → Prop) : Prop :=
  (PX7_isDue r x1 (fun (r_1 : Int32) => ((r_1 = 0 → post (-2000000001 : Int64) r) ∧ (¬ r_1 = 0 → (PX7_keep r (fun (r_3 : MmV) => (PX7_get r_3 x1 (2 : Int32) (fun (r_4 : Int64) => (PX7_put r_3 x1 (0 : Int32) (0 : Int64) (fun (r_5 : MmV) => (∃ n_20 : Nat, LX7_drop_33  x1 r_4  post n_20 (0 : Int32) r_5)))))))))))
set_option maxHeartbeats 4000000 in
set_option maxRecDepth 100000 in
theorem qX7_drop (l : Launch) (dC : Nat → ClassId) (dI : Nat → Nat → Nat) (ad : Nat → Nat) (ci : Nat → ClassId) (A : Nat → Prop) (hAD : xw_D 7 ad A) (r : MmV) (x1 : Int32) (post : Int64 → MmV → Prop) (h : PX7_drop r x1 post) : Met l yX7_drop wsX7_drop rmX7_drop (va_Pc [.ref (ad 0), .int x1] (fun U => va_P (dC, dI) vwCl (xw 7 ad (mc ad ci r)) U.heap ∧ va_K (dC, dI) vwCl (xT ci) U)) (va_Ql (fun r9 (u : MmV) => post r9 u) (fun u t => va_P (dC, dI) vwCl (xw 7 ad (mc ad ci u)) t.heap) A) 0 0 A := by
  refine Met.ofW (cc := cX7_drop) (maxL := 7) (ret := (some .long)) (by decide) rfl ?_
  intro p e s m args below meth c s₁ B hml hv
  obtain ⟨eargs, hP, hK⟩ := hv
  have C0 : xC p s m args meth c cX7_drop 7 (some .long) RX7 wsX7_drop (dC, dI) (xT ci) := ⟨B.exec, B.bytes, hml, B.returns, B.notSynchronized, findClass_of_methodNamed B.named, atoms_spec (ws := wsX7_drop) B.pre, hK⟩
  obtain ⟨hx, hb, -, hr, hlocks, hown, hts, -⟩ := id C0
  have hS : va_S A s.heap s.heap [] := va_S.rf
  have hl := lv_entry ([.ref (ad 0), .int x1]) (n := 7) (Nat.le_of_ble_eq_true rfl)
  have ef : entryFrame m args 7 = entryFrame m ([.ref (ad 0), .int x1] : List Value).toArray 7 := by rw [eargs]
  rw [ef, lg_entry_eq]
  generalize (lg_sl ([.ref (ad 0), .int x1]) ++ List.replicate (7 - (lg_sl ([.ref (ad 0), .int x1])).length) Slot.unset).toArray = ls at hl ⊢
  have hl : lv_has ls 7 [(0, .ref (ad 0)), (1, .int x1)] := hl
  have hP : va_P (dC, dI) vwCl (xw 7 ad (mc ad ci r)) s.heap := hP
  unfold PX7_drop at h
  refine lv_aload_n hx hb dX7_drop_0 rfl (lv_at hl 0 rfl) ?_
  refine lv_iload_n hx hb dX7_drop_1 rfl (lv_at hl 1 rfl) ?_
  refine va_calli (va_runV (As := [.int x1]) (rest := []) ⟨hx, hb, C0.2.2.1, hown, hts⟩ (qX7_isDue l dC dI ad ci A hAD r x1 _ h) (cwV 1 hts gX7_drop_X7_isDue rfl rfl rfl (by decide +kernel) ⟨Nat.le_of_ble_eq_true rfl, Nat.le_of_ble_eq_true rfl⟩) ⟨xr_blind, xr_recv (r := (RX7, TX7, 9)) hK hP 0 (by decide) me_M rfl, xr_pre hP hK⟩ rfl rfl hl.1 rfl (lv_room (Nat.le_of_ble_eq_true rfl)) dX7_drop_2 ⟨Nat.le_of_ble_eq_true rfl, Nat.le_of_ble_eq_true rfl⟩) hS (fun _ _ h => h) (fun _ h => h) (fun r_1 _ t9 H locs ht hvm h hB _ _ hS => ?_)
  refine W.cs (cells' := 0) (slots' := 0) rfl rfl ?_
  have hP := x_th ht hB
  have hP : va_P (dC, dI) vwCl (xw 7 ad (mc ad ci r)) H := hP
  refine lv_if_ne (tgt := 12) hx hb dX7_drop_5 (by decide) (fun c_2 => ?_) (fun c_2 => ?_)
  · have h := h.2 c_2
    refine lv_aload_n hx hb dX7_drop_12 rfl (lv_at hl 0 rfl) ?_
    refine va_callv (va_runV (As := []) (rest := []) ⟨hx, hb, C0.2.2.1, hown, hts⟩ (qX7_keep l dC dI ad ci A hAD r  _ h) (cwV 0 hts gX7_drop_X7_keep rfl rfl rfl (by decide +kernel) ⟨Nat.le_of_ble_eq_true rfl, Nat.le_of_ble_eq_true rfl⟩) ⟨xr_blind, xr_recv (r := (RX7, TX7, 9)) hK hP 0 (by decide) me_M rfl, xr_pre hP hK⟩ rfl rfl hl.1 rfl (lv_room (Nat.le_of_ble_eq_true rfl)) dX7_drop_13 ⟨Nat.le_of_ble_eq_true rfl, Nat.le_of_ble_eq_true rfl⟩) hS (fun _ _ h => h) (fun _ h => h) (fun r_3 t9 H locs ht hvm h hB _ _ hS => ?_)
    refine W.cs (cells' := 0) (slots' := 0) rfl rfl ?_
    have hP := x_th ht hB
    have hP : va_P (dC, dI) vwCl (xw 7 ad (mc ad ci r_3)) H := hP
    refine lv_aload_n hx hb dX7_drop_16 rfl (lv_at hl 0 rfl) ?_
    refine lv_iload_n hx hb dX7_drop_17 rfl (lv_at hl 1 rfl) ?_
    refine lv_iconst (v := (2 : Int32)) hx hb dX7_drop_18 (by decide) ?_
    refine va_calll (va_runV (As := [.int x1, .int (2 : Int32)]) (rest := []) ⟨hx, hb, C0.2.2.1, hown, hts⟩ (qX7_get l dC dI ad ci A hAD r_3 x1 (2 : Int32) _ h) (cwV 2 hts gX7_drop_X7_get rfl rfl rfl (by decide +kernel) ⟨Nat.le_of_ble_eq_true rfl, Nat.le_of_ble_eq_true rfl⟩) ⟨xr_blind, xr_recv (r := (RX7, TX7, 9)) hK hP 0 (by decide) me_M rfl, xr_pre hP hK⟩ rfl rfl hl.1 rfl (lv_room (Nat.le_of_ble_eq_true rfl)) dX7_drop_19 ⟨Nat.le_of_ble_eq_true rfl, Nat.le_of_ble_eq_true rfl⟩) hS (fun _ _ h => h) (fun _ h => h) (fun r_4 _ t9 H locs ht hvm h hB _ _ hS => ?_)
    refine W.cs (cells' := 0) (slots' := 0) rfl rfl ?_
    have hP := x_th ht hB
    have hP : va_P (dC, dI) vwCl (xw 7 ad (mc ad ci r_3)) H := hP
    refine lv_lstore_n (lv' := [(2, .long r_4), (0, .ref (ad 0)), (1, .int x1)]) hx hb dX7_drop_22 rfl hl (by decide) rfl (fun ls hl => ?_)
    refine lv_aload_n hx hb dX7_drop_23 rfl (lv_at hl 1 rfl) ?_
    refine lv_iload_n hx hb dX7_drop_24 rfl (lv_at hl 2 rfl) ?_
    refine lv_iconst (v := (0 : Int32)) hx hb dX7_drop_25 (by decide) ?_
    refine lv_lconst (v := (0 : Int64)) hx hb dX7_drop_26 (by decide) ?_
    refine va_callv (va_runV (As := [.int x1, .int (0 : Int32), .long (0 : Int64)]) (rest := []) ⟨hx, hb, C0.2.2.1, hown, hts⟩ (qX7_put l dC dI ad ci A hAD r_3 x1 (0 : Int32) (0 : Int64) _ h) (cwV 3 hts gX7_drop_X7_put rfl rfl rfl (by decide +kernel) ⟨Nat.le_of_ble_eq_true rfl, Nat.le_of_ble_eq_true rfl⟩) ⟨xr_blind, xr_recv (r := (RX7, TX7, 9)) hK hP 0 (by decide) me_M rfl, xr_pre hP hK⟩ rfl rfl hl.1 rfl (lv_room (Nat.le_of_ble_eq_true rfl)) dX7_drop_27 ⟨Nat.le_of_ble_eq_true rfl, Nat.le_of_ble_eq_true rfl⟩) hS (fun _ _ h => h) (fun _ h => h) (fun r_5 t9 H locs ht hvm h hB _ _ hS => ?_)
    refine W.cs (cells' := 0) (slots' := 0) rfl rfl ?_
    have hP := x_th ht hB
    have hP : va_P (dC, dI) vwCl (xw 7 ad (mc ad ci r_5)) H := hP
    refine lv_iconst (v := (0 : Int32)) hx hb dX7_drop_30 (by decide) ?_
    refine lv_istore (lv' := [(4, .int (0 : Int32)), (2, .long r_4), (0, .ref (ad 0)), (1, .int x1)]) hx hb dX7_drop_31 hl (by decide) rfl (fun ls hl => ?_)
    obtain ⟨n_20, h⟩ := h
    exact kX7_drop_33 l dC dI ad ci A hAD    x1 r_4  post C0  n_20 (0 : Int32) r_5 _ _ _ h hP hS (lv_sub hl [2, 3, 1, 0] rfl)
  · have h := h.1 c_2
    refine lv_ldc2 (v := (-2000000001 : Int64)) hx hb hown (hts _ wX7_drop_k73) dX7_drop_8 ?_
    exact W.lret (v := (-2000000001 : Int64)) hx hb hr (fun t ht hW => ⟨⟨(-2000000001 : Int64), r, rfl, h, x_ht ht hP⟩, hS.F ht⟩) hS.2.2 dX7_drop_11
abbrev rmX7_shift : Room := { frames := 3, cells := 0, slots := 0, locals := 67 }
theorem wX7_shift_k73 : Cond.constantLong RX7 73 (-2000000001) ∈ wsX7_shift := by decide +kernel
theorem wX7_shift_k94 : Cond.constantLong RX7 94 (-1125899906842624) ∈ wsX7_shift := by decide +kernel
theorem wX7_shift_k67 : Cond.constantLong RX7 67 (1125899906842624) ∈ wsX7_shift := by decide +kernel
theorem wX7_shift_k99 : Cond.constantLong RX7 99 (2) ∈ wsX7_shift := by decide +kernel
theorem wX7_shift_k50 : Cond.constantLong RX7 50 (-2000000002) ∈ wsX7_shift := by decide +kernel
def PX7_shift  (r : MmV) (x1 : Int32) (x2 : Int64) (post : Int64 → MmV → Prop) : Prop :=
  (PX7_isDue r x1 (fun (r_1 : Int32) => ((r_1 = 0 → post (-2000000001 : Int64) r) ∧ (¬ r_1 = 0 → (PX7_isIn x2 (-1125899906842624 : Int64) (1125899906842624 : Int64) (fun (r_3 : Int32) => ((r_3 = 0 → post (-2000000001 : Int64) r) ∧ (¬ r_3 = 0 → (PX7_hasTick r x1 (fun (r_5 : Int32) => ((r_5 = 0 → post (-2000000002 : Int64) r) ∧ (¬ r_5 = 0 → (PX7_get r x1 (3 : Int32) (fun (r_7 : Int64) => ∀ x4_8 : Int64, x4_8 = (r_7 + x2) → (PX7_isTick r x4_8 (fun (r_9 : Int32) => ((r_9 = 0 → post (-2000000001 : Int64) r) ∧ (¬ r_9 = 0 → (PX7_keep r (fun (r_11 : MmV) => (PX7_tick r_11 x1 x4_8 (fun (r_12 : MmV) => (PX7_get r_12 x1 (1 : Int32) (fun (r_13 : Int64) => ((r_13 = (2 : Int64) → (PX7_get r_12 x1 (4 : Int32) (fun (r_16 : Int64) => ∀ x6_17 : Int64, x6_17 = (r_16 + x2) → (((0 : Int64) ≤ x6_17 → (PX7_put r_12 x1 (4 : Int32) x6_17 (fun (r_19 : MmV) => (PX7_line r_19 x1 (fun (r_20 : MmV) => post x4_8 r_20))))) ∧ (¬ (0 : Int64) ≤ x6_17 → (PX7_put r_12 x1 (4 : Int32) (0 : Int64) (fun (r_21 : MmV) => (PX7_line r_21 x1 (fun (r_22 : MmV) => post x4_8 r_22))))))))) ∧ (¬ r_13 = (2 : Int64) → (PX7_line r_12 x1 (fun (r_15 : MmV) => post x4_8 r_15))))))))))))))))))))))))))))
set_option maxHeartbeats 4000000 in
set_option maxRecDepth 100000 in
theorem qX7_shift (l : Launch) (dC : Nat → ClassId) (dI : Nat → Nat → Nat) (ad : Nat → Nat) (ci : Nat → ClassId) (A : Nat → Prop) (hAD : xw_D 7 ad A) (r : MmV) (x1 : Int32) (x2 : Int64) (post : Int64 → MmV → Prop) (h : PX7_shift r x1 x2 post) : Met l yX7_shift wsX7_shift rmX7_shift (va_Pc [.ref (ad 0), .int x1, .long x2] (fun U => va_P (dC, dI) vwCl (xw 7 ad (mc ad ci r)) U.heap ∧ va_K (dC, dI) vwCl (xT ci) U)) (va_Ql (fun r9 (u : MmV) => post r9 u) (fun u t => va_P (dC, dI) vwCl (xw 7 ad (mc ad ci u)) t.heap) A) 0 0 A := by
  refine Met.ofW (cc := cX7_shift) (maxL := 8) (ret := (some .long)) (by decide) rfl ?_
  intro p e s m args below meth c s₁ B hml hv
  obtain ⟨eargs, hP, hK⟩ := hv
  have C0 : xC p s m args meth c cX7_shift 8 (some .long) RX7 wsX7_shift (dC, dI) (xT ci) := ⟨B.exec, B.bytes, hml, B.returns, B.notSynchronized, findClass_of_methodNamed B.named, atoms_spec (ws := wsX7_shift) B.pre, hK⟩
  obtain ⟨hx, hb, -, hr, hlocks, hown, hts, -⟩ := id C0
  have hS : va_S A s.heap s.heap [] := va_S.rf
  have hl := lv_entry ([.ref (ad 0), .int x1, .long x2]) (n := 8) (Nat.le_of_ble_eq_true rfl)
  have ef : entryFrame m args 8 = entryFrame m ([.ref (ad 0), .int x1, .long x2] : List Value).toArray 8 := by rw [eargs]
  rw [ef, lg_entry_eq]
  generalize (lg_sl ([.ref (ad 0), .int x1, .long x2]) ++ List.replicate (8 - (lg_sl ([.ref (ad 0), .int x1, .long x2])).length) Slot.unset).toArray = ls at hl ⊢
  have hl : lv_has ls 8 [(0, .ref (ad 0)), (1, .int x1), (2, .long x2)] := hl
  have hP : va_P (dC, dI) vwCl (xw 7 ad (mc ad ci r)) s.heap := hP
  unfold PX7_shift at h
  refine lv_aload_n hx hb dX7_shift_0 rfl (lv_at hl 0 rfl) ?_
  refine lv_iload_n hx hb dX7_shift_1 rfl (lv_at hl 1 rfl) ?_
  refine va_calli (va_runV (As := [.int x1]) (rest := []) ⟨hx, hb, C0.2.2.1, hown, hts⟩ (qX7_isDue l dC dI ad ci A hAD r x1 _ h) (cwV 1 hts gX7_shift_X7_isDue rfl rfl rfl (by decide +kernel) ⟨Nat.le_of_ble_eq_true rfl, Nat.le_of_ble_eq_true rfl⟩) ⟨xr_blind, xr_recv (r := (RX7, TX7, 9)) hK hP 0 (by decide) me_M rfl, xr_pre hP hK⟩ rfl rfl hl.1 rfl (lv_room (Nat.le_of_ble_eq_true rfl)) dX7_shift_2 ⟨Nat.le_of_ble_eq_true rfl, Nat.le_of_ble_eq_true rfl⟩) hS (fun _ _ h => h) (fun _ h => h) (fun r_1 _ t9 H locs ht hvm h hB _ _ hS => ?_)
  refine W.cs (cells' := 0) (slots' := 0) rfl rfl ?_
  have hP := x_th ht hB
  have hP : va_P (dC, dI) vwCl (xw 7 ad (mc ad ci r)) H := hP
  refine lv_if_eq (tgt := 21) hx hb dX7_shift_5 (by decide) (fun c_2 => ?_) (fun c_2 => ?_)
  · have h := h.1 c_2
    refine lv_ldc2 (v := (-2000000001 : Int64)) hx hb hown (hts _ wX7_shift_k73) dX7_shift_21 ?_
    exact W.lret (v := (-2000000001 : Int64)) hx hb hr (fun t ht hW => ⟨⟨(-2000000001 : Int64), r, rfl, h, x_ht ht hP⟩, hS.F ht⟩) hS.2.2 dX7_shift_24
  · have h := h.2 c_2
    refine lv_lload_n hx hb dX7_shift_8 rfl (lv_at hl 2 rfl) ?_
    refine lv_ldc2 (v := (-1125899906842624 : Int64)) hx hb hown (hts _ wX7_shift_k94) dX7_shift_9 ?_
    refine lv_ldc2 (v := (1125899906842624 : Int64)) hx hb hown (hts _ wX7_shift_k67) dX7_shift_12 ?_
    refine va_calli (va_runS (As := [.long x2, .long (-1125899906842624 : Int64), .long (1125899906842624 : Int64)]) (rest := []) ⟨hx, hb, C0.2.2.1, hown, hts⟩ (qX7_isIn l dC dI 7 ad (mc ad ci r) (xT ci) A x2 (-1125899906842624 : Int64) (1125899906842624 : Int64) _ h) (va_cwS 3 hts gX7_shift_X7_isIn rfl rfl rfl (by decide +kernel) ⟨Nat.le_of_ble_eq_true rfl, Nat.le_of_ble_eq_true rfl⟩) ⟨xr_blind, xr_pre hP hK⟩ rfl rfl hl.1 rfl (lv_room (Nat.le_of_ble_eq_true rfl)) dX7_shift_15 ⟨Nat.le_of_ble_eq_true rfl, Nat.le_of_ble_eq_true rfl⟩) hS (fun _ _ h => h) (fun _ h => h) (fun r_3 _ t9 H locs ht hvm h hB _ _ hS => ?_)
    refine W.cs (cells' := 0) (slots' := 0) rfl rfl ?_
    have hP := x_th ht hB
    have hP : va_P (dC, dI) vwCl (xw 7 ad (mc ad ci r)) H := hP
    refine lv_if_ne (tgt := 25) hx hb dX7_shift_18 (by decide) (fun c_4 => ?_) (fun c_4 => ?_)
    · have h := h.2 c_4
      refine lv_aload_n hx hb dX7_shift_25 rfl (lv_at hl 0 rfl) ?_
      refine lv_iload_n hx hb dX7_shift_26 rfl (lv_at hl 1 rfl) ?_
      refine va_calli (va_runV (As := [.int x1]) (rest := []) ⟨hx, hb, C0.2.2.1, hown, hts⟩ (qX7_hasTick l dC dI ad ci A hAD r x1 _ h) (cwV 1 hts gX7_shift_X7_hasTick rfl rfl rfl (by decide +kernel) ⟨Nat.le_of_ble_eq_true rfl, Nat.le_of_ble_eq_true rfl⟩) ⟨xr_blind, xr_recv (r := (RX7, TX7, 9)) hK hP 0 (by decide) me_M rfl, xr_pre hP hK⟩ rfl rfl hl.1 rfl (lv_room (Nat.le_of_ble_eq_true rfl)) dX7_shift_27 ⟨Nat.le_of_ble_eq_true rfl, Nat.le_of_ble_eq_true rfl⟩) hS (fun _ _ h => h) (fun _ h => h) (fun r_5 _ t9 H locs ht hvm h hB _ _ hS => ?_)
      refine W.cs (cells' := 0) (slots' := 0) rfl rfl ?_
      have hP := x_th ht hB
      have hP : va_P (dC, dI) vwCl (xw 7 ad (mc ad ci r)) H := hP
      refine lv_if_ne (tgt := 37) hx hb dX7_shift_30 (by decide) (fun c_6 => ?_) (fun c_6 => ?_)
      · have h := h.2 c_6
        refine lv_aload_n hx hb dX7_shift_37 rfl (lv_at hl 0 rfl) ?_
        refine lv_iload_n hx hb dX7_shift_38 rfl (lv_at hl 1 rfl) ?_
        refine lv_iconst (v := (3 : Int32)) hx hb dX7_shift_39 (by decide) ?_
        refine va_calll (va_runV (As := [.int x1, .int (3 : Int32)]) (rest := []) ⟨hx, hb, C0.2.2.1, hown, hts⟩ (qX7_get l dC dI ad ci A hAD r x1 (3 : Int32) _ h) (cwV 2 hts gX7_shift_X7_get rfl rfl rfl (by decide +kernel) ⟨Nat.le_of_ble_eq_true rfl, Nat.le_of_ble_eq_true rfl⟩) ⟨xr_blind, xr_recv (r := (RX7, TX7, 9)) hK hP 0 (by decide) me_M rfl, xr_pre hP hK⟩ rfl rfl hl.1 rfl (lv_room (Nat.le_of_ble_eq_true rfl)) dX7_shift_40 ⟨Nat.le_of_ble_eq_true rfl, Nat.le_of_ble_eq_true rfl⟩) hS (fun _ _ h => h) (fun _ h => h) (fun r_7 _ t9 H locs ht hvm h hB _ _ hS => ?_)
        refine W.cs (cells' := 0) (slots' := 0) rfl rfl ?_
        have hP := x_th ht hB
        have hP : va_P (dC, dI) vwCl (xw 7 ad (mc ad ci r)) H := hP
        refine lv_lload_n hx hb dX7_shift_43 rfl (lv_at hl 2 rfl) ?_
        refine lv_ladd hx hb dX7_shift_44 ?_
        refine lv_topl (fun x4_8 ex4_8 => ?_)
        have h := h x4_8 ex4_8
        refine lv_lstore (lv' := [(4, .long x4_8), (0, .ref (ad 0)), (1, .int x1), (2, .long x2)]) hx hb dX7_shift_45 hl (by decide) rfl (fun ls hl => ?_)
        refine lv_aload_n hx hb dX7_shift_47 rfl (lv_at hl 1 rfl) ?_
        refine lv_lload hx hb dX7_shift_48 (lv_at hl 0 rfl) ?_
        refine va_calli (va_runV (As := [.long x4_8]) (rest := []) ⟨hx, hb, C0.2.2.1, hown, hts⟩ (qX7_isTick l dC dI ad ci A hAD r x4_8 _ h) (cwV 1 hts gX7_shift_X7_isTick rfl rfl rfl (by decide +kernel) ⟨Nat.le_of_ble_eq_true rfl, Nat.le_of_ble_eq_true rfl⟩) ⟨xr_blind, xr_recv (r := (RX7, TX7, 9)) hK hP 0 (by decide) me_M rfl, xr_pre hP hK⟩ rfl rfl hl.1 rfl (lv_room (Nat.le_of_ble_eq_true rfl)) dX7_shift_50 ⟨Nat.le_of_ble_eq_true rfl, Nat.le_of_ble_eq_true rfl⟩) hS (fun _ _ h => h) (fun _ h => h) (fun r_9 _ t9 H locs ht hvm h hB _ _ hS => ?_)
        refine W.cs (cells' := 0) (slots' := 0) rfl rfl ?_
        have hP := x_th ht hB
        have hP : va_P (dC, dI) vwCl (xw 7 ad (mc ad ci r)) H := hP
        refine lv_if_ne (tgt := 60) hx hb dX7_shift_53 (by decide) (fun c_10 => ?_) (fun c_10 => ?_)
        · have h := h.2 c_10
          refine lv_aload_n hx hb dX7_shift_60 rfl (lv_at hl 1 rfl) ?_
          refine va_callv (va_runV (As := []) (rest := []) ⟨hx, hb, C0.2.2.1, hown, hts⟩ (qX7_keep l dC dI ad ci A hAD r  _ h) (cwV 0 hts gX7_shift_X7_keep rfl rfl rfl (by decide +kernel) ⟨Nat.le_of_ble_eq_true rfl, Nat.le_of_ble_eq_true rfl⟩) ⟨xr_blind, xr_recv (r := (RX7, TX7, 9)) hK hP 0 (by decide) me_M rfl, xr_pre hP hK⟩ rfl rfl hl.1 rfl (lv_room (Nat.le_of_ble_eq_true rfl)) dX7_shift_61 ⟨Nat.le_of_ble_eq_true rfl, Nat.le_of_ble_eq_true rfl⟩) hS (fun _ _ h => h) (fun _ h => h) (fun r_11 t9 H locs ht hvm h hB _ _ hS => ?_)
          refine W.cs (cells' := 0) (slots' := 0) rfl rfl ?_
          have hP := x_th ht hB
          have hP : va_P (dC, dI) vwCl (xw 7 ad (mc ad ci r_11)) H := hP
          refine lv_aload_n hx hb dX7_shift_64 rfl (lv_at hl 1 rfl) ?_
          refine lv_iload_n hx hb dX7_shift_65 rfl (lv_at hl 2 rfl) ?_
          refine lv_lload hx hb dX7_shift_66 (lv_at hl 0 rfl) ?_
          refine va_callv (va_runV (As := [.int x1, .long x4_8]) (rest := []) ⟨hx, hb, C0.2.2.1, hown, hts⟩ (qX7_tick l dC dI ad ci A hAD r_11 x1 x4_8 _ h) (cwV 2 hts gX7_shift_X7_tick rfl rfl rfl (by decide +kernel) ⟨Nat.le_of_ble_eq_true rfl, Nat.le_of_ble_eq_true rfl⟩) ⟨xr_blind, xr_recv (r := (RX7, TX7, 9)) hK hP 0 (by decide) me_M rfl, xr_pre hP hK⟩ rfl rfl hl.1 rfl (lv_room (Nat.le_of_ble_eq_true rfl)) dX7_shift_68 ⟨Nat.le_of_ble_eq_true rfl, Nat.le_of_ble_eq_true rfl⟩) hS (fun _ _ h => h) (fun _ h => h) (fun r_12 t9 H locs ht hvm h hB _ _ hS => ?_)
          refine W.cs (cells' := 0) (slots' := 0) rfl rfl ?_
          have hP := x_th ht hB
          have hP : va_P (dC, dI) vwCl (xw 7 ad (mc ad ci r_12)) H := hP
          refine lv_aload_n hx hb dX7_shift_71 rfl (lv_at hl 1 rfl) ?_
          refine lv_iload_n hx hb dX7_shift_72 rfl (lv_at hl 2 rfl) ?_
          refine lv_iconst (v := (1 : Int32)) hx hb dX7_shift_73 (by decide) ?_
          refine va_calll (va_runV (As := [.int x1, .int (1 : Int32)]) (rest := []) ⟨hx, hb, C0.2.2.1, hown, hts⟩ (qX7_get l dC dI ad ci A hAD r_12 x1 (1 : Int32) _ h) (cwV 2 hts gX7_shift_X7_get rfl rfl rfl (by decide +kernel) ⟨Nat.le_of_ble_eq_true rfl, Nat.le_of_ble_eq_true rfl⟩) ⟨xr_blind, xr_recv (r := (RX7, TX7, 9)) hK hP 0 (by decide) me_M rfl, xr_pre hP hK⟩ rfl rfl hl.1 rfl (lv_room (Nat.le_of_ble_eq_true rfl)) dX7_shift_74 ⟨Nat.le_of_ble_eq_true rfl, Nat.le_of_ble_eq_true rfl⟩) hS (fun _ _ h => h) (fun _ h => h) (fun r_13 _ t9 H locs ht hvm h hB _ _ hS => ?_)
          refine W.cs (cells' := 0) (slots' := 0) rfl rfl ?_
          have hP := x_th ht hB
          have hP : va_P (dC, dI) vwCl (xw 7 ad (mc ad ci r_12)) H := hP
          refine lv_ldc2 (v := (2 : Int64)) hx hb hown (hts _ wX7_shift_k99) dX7_shift_77 ?_
          refine xr_if_lcmp_ne (tgt := 113) hx hb dX7_shift_80 dX7_shift_81 (by decide) (fun c_14 => ?_) (fun c_14 => ?_)
          · have h := h.2 c_14
            refine lv_aload_n hx hb dX7_shift_113 rfl (lv_at hl 1 rfl) ?_
            refine lv_iload_n hx hb dX7_shift_114 rfl (lv_at hl 2 rfl) ?_
            refine va_callv (va_runV (As := [.int x1]) (rest := []) ⟨hx, hb, C0.2.2.1, hown, hts⟩ (qX7_line l dC dI ad ci A hAD r_12 x1 _ h) (cwV 1 hts gX7_shift_X7_line rfl rfl rfl (by decide +kernel) ⟨Nat.le_of_ble_eq_true rfl, Nat.le_of_ble_eq_true rfl⟩) ⟨xr_blind, xr_recv (r := (RX7, TX7, 9)) hK hP 0 (by decide) me_M rfl, xr_pre hP hK⟩ rfl rfl hl.1 rfl (lv_room (Nat.le_of_ble_eq_true rfl)) dX7_shift_115 ⟨Nat.le_of_ble_eq_true rfl, Nat.le_of_ble_eq_true rfl⟩) hS (fun _ _ h => h) (fun _ h => h) (fun r_15 t9 H locs ht hvm h hB _ _ hS => ?_)
            refine W.cs (cells' := 0) (slots' := 0) rfl rfl ?_
            have hP := x_th ht hB
            have hP : va_P (dC, dI) vwCl (xw 7 ad (mc ad ci r_15)) H := hP
            refine lv_lload hx hb dX7_shift_118 (lv_at hl 0 rfl) ?_
            exact W.lret (v := x4_8) hx hb hr (fun t ht hW => ⟨⟨x4_8, r_15, rfl, h, x_ht ht hP⟩, hS.F ht⟩) hS.2.2 dX7_shift_120
          · have h := h.1 c_14
            refine lv_aload_n hx hb dX7_shift_84 rfl (lv_at hl 1 rfl) ?_
            refine lv_iload_n hx hb dX7_shift_85 rfl (lv_at hl 2 rfl) ?_
            refine lv_iconst (v := (4 : Int32)) hx hb dX7_shift_86 (by decide) ?_
            refine va_calll (va_runV (As := [.int x1, .int (4 : Int32)]) (rest := []) ⟨hx, hb, C0.2.2.1, hown, hts⟩ (qX7_get l dC dI ad ci A hAD r_12 x1 (4 : Int32) _ h) (cwV 2 hts gX7_shift_X7_get rfl rfl rfl (by decide +kernel) ⟨Nat.le_of_ble_eq_true rfl, Nat.le_of_ble_eq_true rfl⟩) ⟨xr_blind, xr_recv (r := (RX7, TX7, 9)) hK hP 0 (by decide) me_M rfl, xr_pre hP hK⟩ rfl rfl hl.1 rfl (lv_room (Nat.le_of_ble_eq_true rfl)) dX7_shift_87 ⟨Nat.le_of_ble_eq_true rfl, Nat.le_of_ble_eq_true rfl⟩) hS (fun _ _ h => h) (fun _ h => h) (fun r_16 _ t9 H locs ht hvm h hB _ _ hS => ?_)
            refine W.cs (cells' := 0) (slots' := 0) rfl rfl ?_
            have hP := x_th ht hB
            have hP : va_P (dC, dI) vwCl (xw 7 ad (mc ad ci r_12)) H := hP
            refine lv_lload_n hx hb dX7_shift_90 rfl (lv_at hl 3 rfl) ?_
            refine lv_ladd hx hb dX7_shift_91 ?_
            refine lv_topl (fun x6_17 ex6_17 => ?_)
            have h := h x6_17 ex6_17
            refine lv_lstore (lv' := [(6, .long x6_17), (4, .long x4_8), (0, .ref (ad 0)), (1, .int x1), (2, .long x2)]) hx hb dX7_shift_92 hl (by decide) rfl (fun ls hl => ?_)
            refine lv_aload_n hx hb dX7_shift_94 rfl (lv_at hl 2 rfl) ?_
            refine lv_iload_n hx hb dX7_shift_95 rfl (lv_at hl 3 rfl) ?_
            refine lv_iconst (v := (4 : Int32)) hx hb dX7_shift_96 (by decide) ?_
            refine lv_lload hx hb dX7_shift_97 (lv_at hl 0 rfl) ?_
            refine lv_lconst (v := (0 : Int64)) hx hb dX7_shift_99 (by decide) ?_
            refine xr_if_lcmp_ge (tgt := 108) hx hb dX7_shift_100 dX7_shift_101 (by decide) (fun c_18 => ?_) (fun c_18 => ?_)
            · have h := h.1 c_18
              refine lv_lload hx hb dX7_shift_108 (lv_at hl 0 rfl) ?_
              refine va_callv (va_runV (As := [.int x1, .int (4 : Int32), .long x6_17]) (rest := []) ⟨hx, hb, C0.2.2.1, hown, hts⟩ (qX7_put l dC dI ad ci A hAD r_12 x1 (4 : Int32) x6_17 _ h) (cwV 3 hts gX7_shift_X7_put rfl rfl rfl (by decide +kernel) ⟨Nat.le_of_ble_eq_true rfl, Nat.le_of_ble_eq_true rfl⟩) ⟨xr_blind, xr_recv (r := (RX7, TX7, 9)) hK hP 0 (by decide) me_M rfl, xr_pre hP hK⟩ rfl rfl hl.1 rfl (lv_room (Nat.le_of_ble_eq_true rfl)) dX7_shift_110 ⟨Nat.le_of_ble_eq_true rfl, Nat.le_of_ble_eq_true rfl⟩) hS (fun _ _ h => h) (fun _ h => h) (fun r_19 t9 H locs ht hvm h hB _ _ hS => ?_)
              refine W.cs (cells' := 0) (slots' := 0) rfl rfl ?_
              have hP := x_th ht hB
              have hP : va_P (dC, dI) vwCl (xw 7 ad (mc ad ci r_19)) H := hP
              refine lv_aload_n hx hb dX7_shift_113 rfl (lv_at hl 2 rfl) ?_
              refine lv_iload_n hx hb dX7_shift_114 rfl (lv_at hl 3 rfl) ?_
              refine va_callv (va_runV (As := [.int x1]) (rest := []) ⟨hx, hb, C0.2.2.1, hown, hts⟩ (qX7_line l dC dI ad ci A hAD r_19 x1 _ h) (cwV 1 hts gX7_shift_X7_line rfl rfl rfl (by decide +kernel) ⟨Nat.le_of_ble_eq_true rfl, Nat.le_of_ble_eq_true rfl⟩) ⟨xr_blind, xr_recv (r := (RX7, TX7, 9)) hK hP 0 (by decide) me_M rfl, xr_pre hP hK⟩ rfl rfl hl.1 rfl (lv_room (Nat.le_of_ble_eq_true rfl)) dX7_shift_115 ⟨Nat.le_of_ble_eq_true rfl, Nat.le_of_ble_eq_true rfl⟩) hS (fun _ _ h => h) (fun _ h => h) (fun r_20 t9 H locs ht hvm h hB _ _ hS => ?_)
              refine W.cs (cells' := 0) (slots' := 0) rfl rfl ?_
              have hP := x_th ht hB
              have hP : va_P (dC, dI) vwCl (xw 7 ad (mc ad ci r_20)) H := hP
              refine lv_lload hx hb dX7_shift_118 (lv_at hl 1 rfl) ?_
              exact W.lret (v := x4_8) hx hb hr (fun t ht hW => ⟨⟨x4_8, r_20, rfl, h, x_ht ht hP⟩, hS.F ht⟩) hS.2.2 dX7_shift_120
            · have h := h.2 c_18
              refine lv_lconst (v := (0 : Int64)) hx hb dX7_shift_104 (by decide) ?_
              refine lv_goto (tgt := 110) hx hb dX7_shift_105 (by decide) ?_
              refine va_callv (va_runV (As := [.int x1, .int (4 : Int32), .long (0 : Int64)]) (rest := []) ⟨hx, hb, C0.2.2.1, hown, hts⟩ (qX7_put l dC dI ad ci A hAD r_12 x1 (4 : Int32) (0 : Int64) _ h) (cwV 3 hts gX7_shift_X7_put rfl rfl rfl (by decide +kernel) ⟨Nat.le_of_ble_eq_true rfl, Nat.le_of_ble_eq_true rfl⟩) ⟨xr_blind, xr_recv (r := (RX7, TX7, 9)) hK hP 0 (by decide) me_M rfl, xr_pre hP hK⟩ rfl rfl hl.1 rfl (lv_room (Nat.le_of_ble_eq_true rfl)) dX7_shift_110 ⟨Nat.le_of_ble_eq_true rfl, Nat.le_of_ble_eq_true rfl⟩) hS (fun _ _ h => h) (fun _ h => h) (fun r_21 t9 H locs ht hvm h hB _ _ hS => ?_)
              refine W.cs (cells' := 0) (slots' := 0) rfl rfl ?_
              have hP := x_th ht hB
              have hP : va_P (dC, dI) vwCl (xw 7 ad (mc ad ci r_21)) H := hP
              refine lv_aload_n hx hb dX7_shift_113 rfl (lv_at hl 2 rfl) ?_
              refine lv_iload_n hx hb dX7_shift_114 rfl (lv_at hl 3 rfl) ?_
              refine va_callv (va_runV (As := [.int x1]) (rest := []) ⟨hx, hb, C0.2.2.1, hown, hts⟩ (qX7_line l dC dI ad ci A hAD r_21 x1 _ h) (cwV 1 hts gX7_shift_X7_line rfl rfl rfl (by decide +kernel) ⟨Nat.le_of_ble_eq_true rfl, Nat.le_of_ble_eq_true rfl⟩) ⟨xr_blind, xr_recv (r := (RX7, TX7, 9)) hK hP 0 (by decide) me_M rfl, xr_pre hP hK⟩ rfl rfl hl.1 rfl (lv_room (Nat.le_of_ble_eq_true rfl)) dX7_shift_115 ⟨Nat.le_of_ble_eq_true rfl, Nat.le_of_ble_eq_true rfl⟩) hS (fun _ _ h => h) (fun _ h => h) (fun r_22 t9 H locs ht hvm h hB _ _ hS => ?_)
              refine W.cs (cells' := 0) (slots' := 0) rfl rfl ?_
              have hP := x_th ht hB
              have hP : va_P (dC, dI) vwCl (xw 7 ad (mc ad ci r_22)) H := hP
              refine lv_lload hx hb dX7_shift_118 (lv_at hl 1 rfl) ?_
              exact W.lret (v := x4_8) hx hb hr (fun t ht hW => ⟨⟨x4_8, r_22, rfl, h, x_ht ht hP⟩, hS.F ht⟩) hS.2.2 dX7_shift_120
        · have h := h.1 c_10
          refine lv_ldc2 (v := (-2000000001 : Int64)) hx hb hown (hts _ wX7_shift_k73) dX7_shift_56 ?_
          exact W.lret (v := (-2000000001 : Int64)) hx hb hr (fun t ht hW => ⟨⟨(-2000000001 : Int64), r, rfl, h, x_ht ht hP⟩, hS.F ht⟩) hS.2.2 dX7_shift_59
      · have h := h.1 c_6
        refine lv_ldc2 (v := (-2000000002 : Int64)) hx hb hown (hts _ wX7_shift_k50) dX7_shift_33 ?_
        exact W.lret (v := (-2000000002 : Int64)) hx hb hr (fun t ht hW => ⟨⟨(-2000000002 : Int64), r, rfl, h, x_ht ht hP⟩, hS.F ht⟩) hS.2.2 dX7_shift_36
    · have h := h.1 c_4
      refine lv_ldc2 (v := (-2000000001 : Int64)) hx hb hown (hts _ wX7_shift_k73) dX7_shift_21 ?_
      exact W.lret (v := (-2000000001 : Int64)) hx hb hr (fun t ht hW => ⟨⟨(-2000000001 : Int64), r, rfl, h, x_ht ht hP⟩, hS.F ht⟩) hS.2.2 dX7_shift_24
abbrev rmX7_isBehind : Room := { frames := 3, cells := 0, slots := 0, locals := 67 }
def LX7_isBehind_2  (r : MmV) (x2 : Int32)  (post : Int32 → Prop) : Nat → Int32 → Prop
  | 0, _ => False
  | n + 1, x3 => (PX7_waits r x3 (fun (r_1 : Int32) => ((r_1 = 0 → post (0 : Int32)) ∧ (¬ r_1 = 0 → (PX7_get r x3 (7 : Int32) (fun (r_3 : Int64) => ∀ x3_4 : Int32, x3_4 = (r_3.toInt32) → ((x3_4 = x2 → post (1 : Int32)) ∧ (¬ x3_4 = x2 → LX7_isBehind_2  r x2 post n x3_4))))))))
set_option maxHeartbeats 4000000 in
set_option maxRecDepth 100000 in
theorem kX7_isBehind_2 {p : Program} {e : Env} {s : State} {m : MethodId} {args : Array Value} {below : List Frame} {meth : Method} {c : Code} (l : Launch) (dC : Nat → ClassId) (dI : Nat → Nat → Nat) (ad : Nat → Nat) (ci : Nat → ClassId) (A : Nat → Prop) (hAD : xw_D 7 ad A) (r : MmV) (x2 : Int32)  (post : Int32 → Prop) (C0 : xC p s m args meth c cX7_isBehind 4 (some .boolean) RX7 wsX7_isBehind (dC, dI) (xT ci)) : ∀ (n : Nat) (x3 : Int32) (H : Heap) (locs : List Loc) (ls : Array Slot), LX7_isBehind_2  r x2 post n x3 → va_P (dC, dI) vwCl (xw 7 ad (mc ad ci r)) H → va_S A s.heap H locs → lv_has ls 4 [(0, .ref (ad 0)), (2, .int x2), (3, .int x3)] → W p l e rmX7_isBehind s m args below meth c H locs 0 0 (MQ below (va_Qi (fun r9 (u : Unit) => post r9 ) (fun u t => va_P (dC, dI) vwCl (xw 7 ad (mc ad ci r)) t.heap) A) args s 0 0 A) (F0 m 2 ls []) := by
  obtain ⟨hx, hb, -, hr, hlocks, hown, hts, hK⟩ := id C0
  intro n
  induction n with
  | zero =>
    intro x3 H locs ls h
    exact False.elim h
  | succ n ih =>
    intro x3 H locs ls h hP hS hl
    rw [LX7_isBehind_2] at h
    refine lv_aload_n hx hb dX7_isBehind_2 rfl (lv_at hl 0 rfl) ?_
    refine lv_iload_n hx hb dX7_isBehind_3 rfl (lv_at hl 2 rfl) ?_
    refine va_calli (va_runV (As := [.int x3]) (rest := []) ⟨hx, hb, C0.2.2.1, hown, hts⟩ (qX7_waits l dC dI ad ci A hAD r x3 _ h) (cwV 1 hts gX7_isBehind_X7_waits rfl rfl rfl (by decide +kernel) ⟨Nat.le_of_ble_eq_true rfl, Nat.le_of_ble_eq_true rfl⟩) ⟨xr_blind, xr_recv (r := (RX7, TX7, 9)) hK hP 0 (by decide) me_M rfl, xr_pre hP hK⟩ rfl rfl hl.1 rfl (lv_room (Nat.le_of_ble_eq_true rfl)) dX7_isBehind_4 ⟨Nat.le_of_ble_eq_true rfl, Nat.le_of_ble_eq_true rfl⟩) hS (fun _ _ h => h) (fun _ h => h) (fun r_1 _ t9 H locs ht hvm h hB _ _ hS => ?_)
    refine W.cs (cells' := 0) (slots' := 0) rfl rfl ?_
    have hP := x_th ht hB
    have hP : va_P (dC, dI) vwCl (xw 7 ad (mc ad ci r)) H := hP
    refine lv_if_eq (tgt := 26) hx hb dX7_isBehind_7 (by decide) (fun c_2 => ?_) (fun c_2 => ?_)
    · have h := h.1 c_2
      refine lv_iconst (v := (0 : Int32)) hx hb dX7_isBehind_26 (by decide) ?_
      exact W.zret (v := (0 : Int32)) (ty := .boolean) hx hb hr (by decide) (fun t ht hW => ⟨⟨(0 : Int32), (), rfl, h, x_ht ht hP⟩, hS.F ht⟩) hS.2.2 dX7_isBehind_27
    · have h := h.2 c_2
      refine lv_aload_n hx hb dX7_isBehind_10 rfl (lv_at hl 0 rfl) ?_
      refine lv_iload_n hx hb dX7_isBehind_11 rfl (lv_at hl 2 rfl) ?_
      refine lv_bipush (v := (7 : Int32)) hx hb dX7_isBehind_12 (by decide) ?_
      refine va_calll (va_runV (As := [.int x3, .int (7 : Int32)]) (rest := []) ⟨hx, hb, C0.2.2.1, hown, hts⟩ (qX7_get l dC dI ad ci A hAD r x3 (7 : Int32) _ h) (cwV 2 hts gX7_isBehind_X7_get rfl rfl rfl (by decide +kernel) ⟨Nat.le_of_ble_eq_true rfl, Nat.le_of_ble_eq_true rfl⟩) ⟨xr_blind, xr_recv (r := (RX7, TX7, 9)) hK hP 0 (by decide) me_M rfl, xr_pre hP hK⟩ rfl rfl hl.1 rfl (lv_room (Nat.le_of_ble_eq_true rfl)) dX7_isBehind_14 ⟨Nat.le_of_ble_eq_true rfl, Nat.le_of_ble_eq_true rfl⟩) hS (fun _ _ h => h) (fun _ h => h) (fun r_3 _ t9 H locs ht hvm h hB _ _ hS => ?_)
      refine W.cs (cells' := 0) (slots' := 0) rfl rfl ?_
      have hP := x_th ht hB
      have hP : va_P (dC, dI) vwCl (xw 7 ad (mc ad ci r)) H := hP
      refine lv_l2i hx hb dX7_isBehind_17 rfl ?_
      refine lv_topi (fun x3_4 ex3_4 => ?_)
      have h := h x3_4 ex3_4
      refine lv_istore_n (lv' := [(3, .int x3_4), (0, .ref (ad 0)), (2, .int x2)]) hx hb dX7_isBehind_18 rfl hl (by decide) rfl (fun ls hl => ?_)
      refine lv_iload_n hx hb dX7_isBehind_19 rfl (lv_at hl 0 rfl) ?_
      refine lv_iload_n hx hb dX7_isBehind_20 rfl (lv_at hl 2 rfl) ?_
      refine lv_icmp_ne (tgt := 2) hx hb dX7_isBehind_21 (by decide) (fun c_5 => ?_) (fun c_5 => ?_)
      · have h := h.2 c_5
        exact ih x3_4 _ _ _ h hP hS (lv_sub hl [1, 2, 0] rfl)
      · have h := h.1 c_5
        refine lv_iconst (v := (1 : Int32)) hx hb dX7_isBehind_24 (by decide) ?_
        exact W.zret (v := (1 : Int32)) (ty := .boolean) hx hb hr (by decide) (fun t ht hW => ⟨⟨(1 : Int32), (), rfl, h, x_ht ht hP⟩, hS.F ht⟩) hS.2.2 dX7_isBehind_25
def PX7_isBehind  (r : MmV) (x1 : Int32) (x2 : Int32) (post : Int32 → Prop) : Prop :=
  (∃ n_6 : Nat, LX7_isBehind_2  r x2  post n_6 x1)
set_option maxHeartbeats 4000000 in
set_option maxRecDepth 100000 in
theorem qX7_isBehind (l : Launch) (dC : Nat → ClassId) (dI : Nat → Nat → Nat) (ad : Nat → Nat) (ci : Nat → ClassId) (A : Nat → Prop) (hAD : xw_D 7 ad A) (r : MmV) (x1 : Int32) (x2 : Int32) (post : Int32 → Prop) (h : PX7_isBehind r x1 x2 post) : Met l yX7_isBehind wsX7_isBehind rmX7_isBehind (va_Pc [.ref (ad 0), .int x1, .int x2] (fun U => va_P (dC, dI) vwCl (xw 7 ad (mc ad ci r)) U.heap ∧ va_K (dC, dI) vwCl (xT ci) U)) (va_Qi (fun r9 (u : Unit) => post r9 ) (fun u t => va_P (dC, dI) vwCl (xw 7 ad (mc ad ci r)) t.heap) A) 0 0 A := by
  refine Met.ofW (cc := cX7_isBehind) (maxL := 4) (ret := (some .boolean)) (by decide) rfl ?_
  intro p e s m args below meth c s₁ B hml hv
  obtain ⟨eargs, hP, hK⟩ := hv
  have C0 : xC p s m args meth c cX7_isBehind 4 (some .boolean) RX7 wsX7_isBehind (dC, dI) (xT ci) := ⟨B.exec, B.bytes, hml, B.returns, B.notSynchronized, findClass_of_methodNamed B.named, atoms_spec (ws := wsX7_isBehind) B.pre, hK⟩
  obtain ⟨hx, hb, -, hr, hlocks, hown, hts, -⟩ := id C0
  have hS : va_S A s.heap s.heap [] := va_S.rf
  have hl := lv_entry ([.ref (ad 0), .int x1, .int x2]) (n := 4) (Nat.le_of_ble_eq_true rfl)
  have ef : entryFrame m args 4 = entryFrame m ([.ref (ad 0), .int x1, .int x2] : List Value).toArray 4 := by rw [eargs]
  rw [ef, lg_entry_eq]
  generalize (lg_sl ([.ref (ad 0), .int x1, .int x2]) ++ List.replicate (4 - (lg_sl ([.ref (ad 0), .int x1, .int x2])).length) Slot.unset).toArray = ls at hl ⊢
  have hl : lv_has ls 4 [(0, .ref (ad 0)), (1, .int x1), (2, .int x2)] := hl
  have hP : va_P (dC, dI) vwCl (xw 7 ad (mc ad ci r)) s.heap := hP
  unfold PX7_isBehind at h
  refine lv_iload_n hx hb dX7_isBehind_0 rfl (lv_at hl 1 rfl) ?_
  refine lv_istore_n (lv' := [(3, .int x1), (0, .ref (ad 0)), (1, .int x1), (2, .int x2)]) hx hb dX7_isBehind_1 rfl hl (by decide) rfl (fun ls hl => ?_)
  obtain ⟨n_6, h⟩ := h
  exact kX7_isBehind_2 l dC dI ad ci A hAD r   x2  post C0  n_6 x1 _ _ _ h hP hS (lv_sub hl [1, 3, 0] rfl)
abbrev rmX7_chain : Room := { frames := 4, cells := 0, slots := 0, locals := 90 }
theorem wX7_chain_k73 : Cond.constantLong RX7 73 (-2000000001) ∈ wsX7_chain := by decide +kernel
theorem wX7_chain_k105 : Cond.constantLong RX7 105 (-2000000004) ∈ wsX7_chain := by decide +kernel
theorem wX7_chain_k50 : Cond.constantLong RX7 50 (-2000000002) ∈ wsX7_chain := by decide +kernel
def PX7_chain  (r : MmV) (x1 : Int32) (x2 : Int32) (post : Int64 → MmV → Prop) : Prop :=
  (PX7_isDue r x1 (fun (r_1 : Int32) => ((r_1 = 0 → post (-2000000001 : Int64) r) ∧ (¬ r_1 = 0 → (PX7_isDue r x2 (fun (r_3 : Int32) => ((r_3 = 0 → post (-2000000001 : Int64) r) ∧ (¬ r_3 = 0 → (PX7_waits r x1 (fun (r_5 : Int32) => ((r_5 = 0 → post (-2000000002 : Int64) r) ∧ (¬ r_5 = 0 → ((x2 = x1 → post (-2000000004 : Int64) r) ∧ (¬ x2 = x1 → (PX7_isBehind r x2 x1 (fun (r_8 : Int32) => ((r_8 = 0 → (PX7_keep r (fun (r_10 : MmV) => (PX7_put r_10 x1 (7 : Int32) (x2.toInt64) (fun (r_11 : MmV) => post (0 : Int64) r_11))))) ∧ (¬ r_8 = 0 → post (-2000000004 : Int64) r))))))))))))))))))
set_option maxHeartbeats 4000000 in
set_option maxRecDepth 100000 in
theorem qX7_chain (l : Launch) (dC : Nat → ClassId) (dI : Nat → Nat → Nat) (ad : Nat → Nat) (ci : Nat → ClassId) (A : Nat → Prop) (hAD : xw_D 7 ad A) (r : MmV) (x1 : Int32) (x2 : Int32) (post : Int64 → MmV → Prop) (h : PX7_chain r x1 x2 post) : Met l yX7_chain wsX7_chain rmX7_chain (va_Pc [.ref (ad 0), .int x1, .int x2] (fun U => va_P (dC, dI) vwCl (xw 7 ad (mc ad ci r)) U.heap ∧ va_K (dC, dI) vwCl (xT ci) U)) (va_Ql (fun r9 (u : MmV) => post r9 u) (fun u t => va_P (dC, dI) vwCl (xw 7 ad (mc ad ci u)) t.heap) A) 0 0 A := by
  refine Met.ofW (cc := cX7_chain) (maxL := 3) (ret := (some .long)) (by decide) rfl ?_
  intro p e s m args below meth c s₁ B hml hv
  obtain ⟨eargs, hP, hK⟩ := hv
  have C0 : xC p s m args meth c cX7_chain 3 (some .long) RX7 wsX7_chain (dC, dI) (xT ci) := ⟨B.exec, B.bytes, hml, B.returns, B.notSynchronized, findClass_of_methodNamed B.named, atoms_spec (ws := wsX7_chain) B.pre, hK⟩
  obtain ⟨hx, hb, -, hr, hlocks, hown, hts, -⟩ := id C0
  have hS : va_S A s.heap s.heap [] := va_S.rf
  have hl := lv_entry ([.ref (ad 0), .int x1, .int x2]) (n := 3) (Nat.le_of_ble_eq_true rfl)
  have ef : entryFrame m args 3 = entryFrame m ([.ref (ad 0), .int x1, .int x2] : List Value).toArray 3 := by rw [eargs]
  rw [ef, lg_entry_eq]
  generalize (lg_sl ([.ref (ad 0), .int x1, .int x2]) ++ List.replicate (3 - (lg_sl ([.ref (ad 0), .int x1, .int x2])).length) Slot.unset).toArray = ls at hl ⊢
  have hl : lv_has ls 3 [(0, .ref (ad 0)), (1, .int x1), (2, .int x2)] := hl
  have hP : va_P (dC, dI) vwCl (xw 7 ad (mc ad ci r)) s.heap := hP
  unfold PX7_chain at h
  refine lv_aload_n hx hb dX7_chain_0 rfl (lv_at hl 0 rfl) ?_
  refine lv_iload_n hx hb dX7_chain_1 rfl (lv_at hl 1 rfl) ?_
  refine va_calli (va_runV (As := [.int x1]) (rest := []) ⟨hx, hb, C0.2.2.1, hown, hts⟩ (qX7_isDue l dC dI ad ci A hAD r x1 _ h) (cwV 1 hts gX7_chain_X7_isDue rfl rfl rfl (by decide +kernel) ⟨Nat.le_of_ble_eq_true rfl, Nat.le_of_ble_eq_true rfl⟩) ⟨xr_blind, xr_recv (r := (RX7, TX7, 9)) hK hP 0 (by decide) me_M rfl, xr_pre hP hK⟩ rfl rfl hl.1 rfl (lv_room (Nat.le_of_ble_eq_true rfl)) dX7_chain_2 ⟨Nat.le_of_ble_eq_true rfl, Nat.le_of_ble_eq_true rfl⟩) hS (fun _ _ h => h) (fun _ h => h) (fun r_1 _ t9 H locs ht hvm h hB _ _ hS => ?_)
  refine W.cs (cells' := 0) (slots' := 0) rfl rfl ?_
  have hP := x_th ht hB
  have hP : va_P (dC, dI) vwCl (xw 7 ad (mc ad ci r)) H := hP
  refine lv_if_eq (tgt := 16) hx hb dX7_chain_5 (by decide) (fun c_2 => ?_) (fun c_2 => ?_)
  · have h := h.1 c_2
    refine lv_ldc2 (v := (-2000000001 : Int64)) hx hb hown (hts _ wX7_chain_k73) dX7_chain_16 ?_
    exact W.lret (v := (-2000000001 : Int64)) hx hb hr (fun t ht hW => ⟨⟨(-2000000001 : Int64), r, rfl, h, x_ht ht hP⟩, hS.F ht⟩) hS.2.2 dX7_chain_19
  · have h := h.2 c_2
    refine lv_aload_n hx hb dX7_chain_8 rfl (lv_at hl 0 rfl) ?_
    refine lv_iload_n hx hb dX7_chain_9 rfl (lv_at hl 2 rfl) ?_
    refine va_calli (va_runV (As := [.int x2]) (rest := []) ⟨hx, hb, C0.2.2.1, hown, hts⟩ (qX7_isDue l dC dI ad ci A hAD r x2 _ h) (cwV 1 hts gX7_chain_X7_isDue rfl rfl rfl (by decide +kernel) ⟨Nat.le_of_ble_eq_true rfl, Nat.le_of_ble_eq_true rfl⟩) ⟨xr_blind, xr_recv (r := (RX7, TX7, 9)) hK hP 0 (by decide) me_M rfl, xr_pre hP hK⟩ rfl rfl hl.1 rfl (lv_room (Nat.le_of_ble_eq_true rfl)) dX7_chain_10 ⟨Nat.le_of_ble_eq_true rfl, Nat.le_of_ble_eq_true rfl⟩) hS (fun _ _ h => h) (fun _ h => h) (fun r_3 _ t9 H locs ht hvm h hB _ _ hS => ?_)
    refine W.cs (cells' := 0) (slots' := 0) rfl rfl ?_
    have hP := x_th ht hB
    have hP : va_P (dC, dI) vwCl (xw 7 ad (mc ad ci r)) H := hP
    refine lv_if_ne (tgt := 20) hx hb dX7_chain_13 (by decide) (fun c_4 => ?_) (fun c_4 => ?_)
    · have h := h.2 c_4
      refine lv_aload_n hx hb dX7_chain_20 rfl (lv_at hl 0 rfl) ?_
      refine lv_iload_n hx hb dX7_chain_21 rfl (lv_at hl 1 rfl) ?_
      refine va_calli (va_runV (As := [.int x1]) (rest := []) ⟨hx, hb, C0.2.2.1, hown, hts⟩ (qX7_waits l dC dI ad ci A hAD r x1 _ h) (cwV 1 hts gX7_chain_X7_waits rfl rfl rfl (by decide +kernel) ⟨Nat.le_of_ble_eq_true rfl, Nat.le_of_ble_eq_true rfl⟩) ⟨xr_blind, xr_recv (r := (RX7, TX7, 9)) hK hP 0 (by decide) me_M rfl, xr_pre hP hK⟩ rfl rfl hl.1 rfl (lv_room (Nat.le_of_ble_eq_true rfl)) dX7_chain_22 ⟨Nat.le_of_ble_eq_true rfl, Nat.le_of_ble_eq_true rfl⟩) hS (fun _ _ h => h) (fun _ h => h) (fun r_5 _ t9 H locs ht hvm h hB _ _ hS => ?_)
      refine W.cs (cells' := 0) (slots' := 0) rfl rfl ?_
      have hP := x_th ht hB
      have hP : va_P (dC, dI) vwCl (xw 7 ad (mc ad ci r)) H := hP
      refine lv_if_ne (tgt := 32) hx hb dX7_chain_25 (by decide) (fun c_6 => ?_) (fun c_6 => ?_)
      · have h := h.2 c_6
        refine lv_iload_n hx hb dX7_chain_32 rfl (lv_at hl 2 rfl) ?_
        refine lv_iload_n hx hb dX7_chain_33 rfl (lv_at hl 1 rfl) ?_
        refine lv_icmp_eq (tgt := 46) hx hb dX7_chain_34 (by decide) (fun c_7 => ?_) (fun c_7 => ?_)
        · have h := h.1 c_7
          refine lv_ldc2 (v := (-2000000004 : Int64)) hx hb hown (hts _ wX7_chain_k105) dX7_chain_46 ?_
          exact W.lret (v := (-2000000004 : Int64)) hx hb hr (fun t ht hW => ⟨⟨(-2000000004 : Int64), r, rfl, h, x_ht ht hP⟩, hS.F ht⟩) hS.2.2 dX7_chain_49
        · have h := h.2 c_7
          refine lv_aload_n hx hb dX7_chain_37 rfl (lv_at hl 0 rfl) ?_
          refine lv_iload_n hx hb dX7_chain_38 rfl (lv_at hl 2 rfl) ?_
          refine lv_iload_n hx hb dX7_chain_39 rfl (lv_at hl 1 rfl) ?_
          refine va_calli (va_runV (As := [.int x2, .int x1]) (rest := []) ⟨hx, hb, C0.2.2.1, hown, hts⟩ (qX7_isBehind l dC dI ad ci A hAD r x2 x1 _ h) (cwV 2 hts gX7_chain_X7_isBehind rfl rfl rfl (by decide +kernel) ⟨Nat.le_of_ble_eq_true rfl, Nat.le_of_ble_eq_true rfl⟩) ⟨xr_blind, xr_recv (r := (RX7, TX7, 9)) hK hP 0 (by decide) me_M rfl, xr_pre hP hK⟩ rfl rfl hl.1 rfl (lv_room (Nat.le_of_ble_eq_true rfl)) dX7_chain_40 ⟨Nat.le_of_ble_eq_true rfl, Nat.le_of_ble_eq_true rfl⟩) hS (fun _ _ h => h) (fun _ h => h) (fun r_8 _ t9 H locs ht hvm h hB _ _ hS => ?_)
          refine W.cs (cells' := 0) (slots' := 0) rfl rfl ?_
          have hP := x_th ht hB
          have hP : va_P (dC, dI) vwCl (xw 7 ad (mc ad ci r)) H := hP
          refine lv_if_eq (tgt := 50) hx hb dX7_chain_43 (by decide) (fun c_9 => ?_) (fun c_9 => ?_)
          · have h := h.1 c_9
            refine lv_aload_n hx hb dX7_chain_50 rfl (lv_at hl 0 rfl) ?_
            refine va_callv (va_runV (As := []) (rest := []) ⟨hx, hb, C0.2.2.1, hown, hts⟩ (qX7_keep l dC dI ad ci A hAD r  _ h) (cwV 0 hts gX7_chain_X7_keep rfl rfl rfl (by decide +kernel) ⟨Nat.le_of_ble_eq_true rfl, Nat.le_of_ble_eq_true rfl⟩) ⟨xr_blind, xr_recv (r := (RX7, TX7, 9)) hK hP 0 (by decide) me_M rfl, xr_pre hP hK⟩ rfl rfl hl.1 rfl (lv_room (Nat.le_of_ble_eq_true rfl)) dX7_chain_51 ⟨Nat.le_of_ble_eq_true rfl, Nat.le_of_ble_eq_true rfl⟩) hS (fun _ _ h => h) (fun _ h => h) (fun r_10 t9 H locs ht hvm h hB _ _ hS => ?_)
            refine W.cs (cells' := 0) (slots' := 0) rfl rfl ?_
            have hP := x_th ht hB
            have hP : va_P (dC, dI) vwCl (xw 7 ad (mc ad ci r_10)) H := hP
            refine lv_aload_n hx hb dX7_chain_54 rfl (lv_at hl 0 rfl) ?_
            refine lv_iload_n hx hb dX7_chain_55 rfl (lv_at hl 1 rfl) ?_
            refine lv_bipush (v := (7 : Int32)) hx hb dX7_chain_56 (by decide) ?_
            refine lv_iload_n hx hb dX7_chain_58 rfl (lv_at hl 2 rfl) ?_
            refine lv_i2l hx hb dX7_chain_59 rfl ?_
            refine va_callv (va_runV (As := [.int x1, .int (7 : Int32), .long (x2.toInt64)]) (rest := []) ⟨hx, hb, C0.2.2.1, hown, hts⟩ (qX7_put l dC dI ad ci A hAD r_10 x1 (7 : Int32) (x2.toInt64) _ h) (cwV 3 hts gX7_chain_X7_put rfl rfl rfl (by decide +kernel) ⟨Nat.le_of_ble_eq_true rfl, Nat.le_of_ble_eq_true rfl⟩) ⟨xr_blind, xr_recv (r := (RX7, TX7, 9)) hK hP 0 (by decide) me_M rfl, xr_pre hP hK⟩ rfl rfl hl.1 rfl (lv_room (Nat.le_of_ble_eq_true rfl)) dX7_chain_60 ⟨Nat.le_of_ble_eq_true rfl, Nat.le_of_ble_eq_true rfl⟩) hS (fun _ _ h => h) (fun _ h => h) (fun r_11 t9 H locs ht hvm h hB _ _ hS => ?_)
            refine W.cs (cells' := 0) (slots' := 0) rfl rfl ?_
            have hP := x_th ht hB
            have hP : va_P (dC, dI) vwCl (xw 7 ad (mc ad ci r_11)) H := hP
            refine lv_lconst (v := (0 : Int64)) hx hb dX7_chain_63 (by decide) ?_
            exact W.lret (v := (0 : Int64)) hx hb hr (fun t ht hW => ⟨⟨(0 : Int64), r_11, rfl, h, x_ht ht hP⟩, hS.F ht⟩) hS.2.2 dX7_chain_64
          · have h := h.2 c_9
            refine lv_ldc2 (v := (-2000000004 : Int64)) hx hb hown (hts _ wX7_chain_k105) dX7_chain_46 ?_
            exact W.lret (v := (-2000000004 : Int64)) hx hb hr (fun t ht hW => ⟨⟨(-2000000004 : Int64), r, rfl, h, x_ht ht hP⟩, hS.F ht⟩) hS.2.2 dX7_chain_49
      · have h := h.1 c_6
        refine lv_ldc2 (v := (-2000000002 : Int64)) hx hb hown (hts _ wX7_chain_k50) dX7_chain_28 ?_
        exact W.lret (v := (-2000000002 : Int64)) hx hb hr (fun t ht hW => ⟨⟨(-2000000002 : Int64), r, rfl, h, x_ht ht hP⟩, hS.F ht⟩) hS.2.2 dX7_chain_31
    · have h := h.1 c_4
      refine lv_ldc2 (v := (-2000000001 : Int64)) hx hb hown (hts _ wX7_chain_k73) dX7_chain_16 ?_
      exact W.lret (v := (-2000000001 : Int64)) hx hb hr (fun t ht hW => ⟨⟨(-2000000001 : Int64), r, rfl, h, x_ht ht hP⟩, hS.F ht⟩) hS.2.2 dX7_chain_19
abbrev rmX7_rest : Room := { frames := 3, cells := 0, slots := 0, locals := 67 }
theorem wX7_rest_k107 : Cond.constantLong RX7 107 (4) ∈ wsX7_rest := by decide +kernel
theorem wX7_rest_k50 : Cond.constantLong RX7 50 (-2000000002) ∈ wsX7_rest := by decide +kernel
theorem wX7_rest_k48 : Cond.constantLong RX7 48 (-2000000005) ∈ wsX7_rest := by decide +kernel
theorem wX7_rest_c7 : ∀ w ∈ u_ws RX7 TX7 9, w ∈ wsX7_rest := by decide +kernel
theorem wX7_rest_f7 : Cond.fieldLink RX7 7 "DueWheelsModel" "s" "[J" ∈ wsX7_rest := by decide +kernel
theorem wX7_rest_k73 : Cond.constantLong RX7 73 (-2000000001) ∈ wsX7_rest := by decide +kernel
def PX7_rest  (r : MmV) (x1 : Int32) (post : Int64 → MmV → Prop) : Prop :=
  (PX7_isDue r x1 (fun (r_1 : Int32) => ((r_1 = 0 → post (-2000000001 : Int64) r) ∧ (¬ r_1 = 0 → (PX7_get r x1 (1 : Int32) (fun (r_3 : Int64) => ((r_3 = (4 : Int64) → (PX7_rests r x1 (fun (r_5 : Int32) => ((r_5 = 0 → (PX7_keep r (fun (r_7 : MmV) => (PX7_get r_7 x1 (3 : Int32) (fun (r_8 : Int64) => ∀ x2_9 : Int64, x2_9 = (r_8 - (m_s r_7 3700)) → (PX7_put r_7 x1 (10 : Int32) x2_9 (fun (r_10 : MmV) => (PX7_put r_10 x1 (3 : Int32) (-2000000005 : Int64) (fun (r_11 : MmV) => (PX7_put r_11 x1 (12 : Int32) (0 : Int64) (fun (r_12 : MmV) => post x2_9 r_12))))))))))) ∧ (¬ r_5 = 0 → post (-2000000002 : Int64) r))))) ∧ (¬ r_3 = (4 : Int64) → post (-2000000002 : Int64) r))))))))
set_option maxHeartbeats 4000000 in
set_option maxRecDepth 100000 in
theorem qX7_rest (l : Launch) (dC : Nat → ClassId) (dI : Nat → Nat → Nat) (ad : Nat → Nat) (ci : Nat → ClassId) (A : Nat → Prop) (hAD : xw_D 7 ad A) (r : MmV) (x1 : Int32) (post : Int64 → MmV → Prop) (h : PX7_rest r x1 post) : Met l yX7_rest wsX7_rest rmX7_rest (va_Pc [.ref (ad 0), .int x1] (fun U => va_P (dC, dI) vwCl (xw 7 ad (mc ad ci r)) U.heap ∧ va_K (dC, dI) vwCl (xT ci) U)) (va_Ql (fun r9 (u : MmV) => post r9 u) (fun u t => va_P (dC, dI) vwCl (xw 7 ad (mc ad ci u)) t.heap) A) 0 0 A := by
  refine Met.ofW (cc := cX7_rest) (maxL := 4) (ret := (some .long)) (by decide) rfl ?_
  intro p e s m args below meth c s₁ B hml hv
  obtain ⟨eargs, hP, hK⟩ := hv
  have C0 : xC p s m args meth c cX7_rest 4 (some .long) RX7 wsX7_rest (dC, dI) (xT ci) := ⟨B.exec, B.bytes, hml, B.returns, B.notSynchronized, findClass_of_methodNamed B.named, atoms_spec (ws := wsX7_rest) B.pre, hK⟩
  obtain ⟨hx, hb, -, hr, hlocks, hown, hts, -⟩ := id C0
  have hS : va_S A s.heap s.heap [] := va_S.rf
  have hl := lv_entry ([.ref (ad 0), .int x1]) (n := 4) (Nat.le_of_ble_eq_true rfl)
  have ef : entryFrame m args 4 = entryFrame m ([.ref (ad 0), .int x1] : List Value).toArray 4 := by rw [eargs]
  rw [ef, lg_entry_eq]
  generalize (lg_sl ([.ref (ad 0), .int x1]) ++ List.replicate (4 - (lg_sl ([.ref (ad 0), .int x1])).length) Slot.unset).toArray = ls at hl ⊢
  have hl : lv_has ls 4 [(0, .ref (ad 0)), (1, .int x1)] := hl
  have hP : va_P (dC, dI) vwCl (xw 7 ad (mc ad ci r)) s.heap := hP
  unfold PX7_rest at h
  refine lv_aload_n hx hb dX7_rest_0 rfl (lv_at hl 0 rfl) ?_
  refine lv_iload_n hx hb dX7_rest_1 rfl (lv_at hl 1 rfl) ?_
  refine va_calli (va_runV (As := [.int x1]) (rest := []) ⟨hx, hb, C0.2.2.1, hown, hts⟩ (qX7_isDue l dC dI ad ci A hAD r x1 _ h) (cwV 1 hts gX7_rest_X7_isDue rfl rfl rfl (by decide +kernel) ⟨Nat.le_of_ble_eq_true rfl, Nat.le_of_ble_eq_true rfl⟩) ⟨xr_blind, xr_recv (r := (RX7, TX7, 9)) hK hP 0 (by decide) me_M rfl, xr_pre hP hK⟩ rfl rfl hl.1 rfl (lv_room (Nat.le_of_ble_eq_true rfl)) dX7_rest_2 ⟨Nat.le_of_ble_eq_true rfl, Nat.le_of_ble_eq_true rfl⟩) hS (fun _ _ h => h) (fun _ h => h) (fun r_1 _ t9 H locs ht hvm h hB _ _ hS => ?_)
  refine W.cs (cells' := 0) (slots' := 0) rfl rfl ?_
  have hP := x_th ht hB
  have hP : va_P (dC, dI) vwCl (xw 7 ad (mc ad ci r)) H := hP
  refine lv_if_ne (tgt := 12) hx hb dX7_rest_5 (by decide) (fun c_2 => ?_) (fun c_2 => ?_)
  · have h := h.2 c_2
    refine lv_aload_n hx hb dX7_rest_12 rfl (lv_at hl 0 rfl) ?_
    refine lv_iload_n hx hb dX7_rest_13 rfl (lv_at hl 1 rfl) ?_
    refine lv_iconst (v := (1 : Int32)) hx hb dX7_rest_14 (by decide) ?_
    refine va_calll (va_runV (As := [.int x1, .int (1 : Int32)]) (rest := []) ⟨hx, hb, C0.2.2.1, hown, hts⟩ (qX7_get l dC dI ad ci A hAD r x1 (1 : Int32) _ h) (cwV 2 hts gX7_rest_X7_get rfl rfl rfl (by decide +kernel) ⟨Nat.le_of_ble_eq_true rfl, Nat.le_of_ble_eq_true rfl⟩) ⟨xr_blind, xr_recv (r := (RX7, TX7, 9)) hK hP 0 (by decide) me_M rfl, xr_pre hP hK⟩ rfl rfl hl.1 rfl (lv_room (Nat.le_of_ble_eq_true rfl)) dX7_rest_15 ⟨Nat.le_of_ble_eq_true rfl, Nat.le_of_ble_eq_true rfl⟩) hS (fun _ _ h => h) (fun _ h => h) (fun r_3 _ t9 H locs ht hvm h hB _ _ hS => ?_)
    refine W.cs (cells' := 0) (slots' := 0) rfl rfl ?_
    have hP := x_th ht hB
    have hP : va_P (dC, dI) vwCl (xw 7 ad (mc ad ci r)) H := hP
    refine lv_ldc2 (v := (4 : Int64)) hx hb hown (hts _ wX7_rest_k107) dX7_rest_18 ?_
    refine xr_if_lcmp_ne (tgt := 33) hx hb dX7_rest_21 dX7_rest_22 (by decide) (fun c_4 => ?_) (fun c_4 => ?_)
    · have h := h.2 c_4
      refine lv_ldc2 (v := (-2000000002 : Int64)) hx hb hown (hts _ wX7_rest_k50) dX7_rest_33 ?_
      exact W.lret (v := (-2000000002 : Int64)) hx hb hr (fun t ht hW => ⟨⟨(-2000000002 : Int64), r, rfl, h, x_ht ht hP⟩, hS.F ht⟩) hS.2.2 dX7_rest_36
    · have h := h.1 c_4
      refine lv_aload_n hx hb dX7_rest_25 rfl (lv_at hl 0 rfl) ?_
      refine lv_iload_n hx hb dX7_rest_26 rfl (lv_at hl 1 rfl) ?_
      refine va_calli (va_runV (As := [.int x1]) (rest := []) ⟨hx, hb, C0.2.2.1, hown, hts⟩ (qX7_rests l dC dI ad ci A hAD r x1 _ h) (cwV 1 hts gX7_rest_X7_rests rfl rfl rfl (by decide +kernel) ⟨Nat.le_of_ble_eq_true rfl, Nat.le_of_ble_eq_true rfl⟩) ⟨xr_blind, xr_recv (r := (RX7, TX7, 9)) hK hP 0 (by decide) me_M rfl, xr_pre hP hK⟩ rfl rfl hl.1 rfl (lv_room (Nat.le_of_ble_eq_true rfl)) dX7_rest_27 ⟨Nat.le_of_ble_eq_true rfl, Nat.le_of_ble_eq_true rfl⟩) hS (fun _ _ h => h) (fun _ h => h) (fun r_5 _ t9 H locs ht hvm h hB _ _ hS => ?_)
      refine W.cs (cells' := 0) (slots' := 0) rfl rfl ?_
      have hP := x_th ht hB
      have hP : va_P (dC, dI) vwCl (xw 7 ad (mc ad ci r)) H := hP
      refine lv_if_eq (tgt := 37) hx hb dX7_rest_30 (by decide) (fun c_6 => ?_) (fun c_6 => ?_)
      · have h := h.1 c_6
        refine lv_aload_n hx hb dX7_rest_37 rfl (lv_at hl 0 rfl) ?_
        refine va_callv (va_runV (As := []) (rest := []) ⟨hx, hb, C0.2.2.1, hown, hts⟩ (qX7_keep l dC dI ad ci A hAD r  _ h) (cwV 0 hts gX7_rest_X7_keep rfl rfl rfl (by decide +kernel) ⟨Nat.le_of_ble_eq_true rfl, Nat.le_of_ble_eq_true rfl⟩) ⟨xr_blind, xr_recv (r := (RX7, TX7, 9)) hK hP 0 (by decide) me_M rfl, xr_pre hP hK⟩ rfl rfl hl.1 rfl (lv_room (Nat.le_of_ble_eq_true rfl)) dX7_rest_38 ⟨Nat.le_of_ble_eq_true rfl, Nat.le_of_ble_eq_true rfl⟩) hS (fun _ _ h => h) (fun _ h => h) (fun r_7 t9 H locs ht hvm h hB _ _ hS => ?_)
        refine W.cs (cells' := 0) (slots' := 0) rfl rfl ?_
        have hP := x_th ht hB
        have hP : va_P (dC, dI) vwCl (xw 7 ad (mc ad ci r_7)) H := hP
        refine lv_aload_n hx hb dX7_rest_41 rfl (lv_at hl 0 rfl) ?_
        refine lv_iload_n hx hb dX7_rest_42 rfl (lv_at hl 1 rfl) ?_
        refine lv_iconst (v := (3 : Int32)) hx hb dX7_rest_43 (by decide) ?_
        refine va_calll (va_runV (As := [.int x1, .int (3 : Int32)]) (rest := []) ⟨hx, hb, C0.2.2.1, hown, hts⟩ (qX7_get l dC dI ad ci A hAD r_7 x1 (3 : Int32) _ h) (cwV 2 hts gX7_rest_X7_get rfl rfl rfl (by decide +kernel) ⟨Nat.le_of_ble_eq_true rfl, Nat.le_of_ble_eq_true rfl⟩) ⟨xr_blind, xr_recv (r := (RX7, TX7, 9)) hK hP 0 (by decide) me_M rfl, xr_pre hP hK⟩ rfl rfl hl.1 rfl (lv_room (Nat.le_of_ble_eq_true rfl)) dX7_rest_44 ⟨Nat.le_of_ble_eq_true rfl, Nat.le_of_ble_eq_true rfl⟩) hS (fun _ _ h => h) (fun _ h => h) (fun r_8 _ t9 H locs ht hvm h hB _ _ hS => ?_)
        refine W.cs (cells' := 0) (slots' := 0) rfl rfl ?_
        have hP := x_th ht hB
        have hP : va_P (dC, dI) vwCl (xw 7 ad (mc ad ci r_7)) H := hP
        refine lv_aload_n hx hb dX7_rest_47 rfl (lv_at hl 0 rfl) ?_
        refine xr_get (D := (dC, dI)) (C := RX7) (T := TX7) (N := 9) (v := .ref (ad 1)) hx hb hts wX7_rest_c7 hown hK hP 0 (by decide) me_M rfl 0 (by decide) wX7_rest_f7 rfl rfl dX7_rest_48 ?_
        refine lv_sipush (v := (3700 : Int32)) hx hb dX7_rest_51 (by decide) ?_
        refine xr_lald (k := 3700) hx hb hK hP 1 1 (by decide) me_s rfl rfl (x_in _ _ (by decide)) dX7_rest_54 ?_
        refine lv_lsub hx hb dX7_rest_55 ?_
        refine lv_topl (fun x2_9 ex2_9 => ?_)
        have h := h x2_9 ex2_9
        refine lv_lstore_n (lv' := [(2, .long x2_9), (0, .ref (ad 0)), (1, .int x1)]) hx hb dX7_rest_56 rfl hl (by decide) rfl (fun ls hl => ?_)
        refine lv_aload_n hx hb dX7_rest_57 rfl (lv_at hl 1 rfl) ?_
        refine lv_iload_n hx hb dX7_rest_58 rfl (lv_at hl 2 rfl) ?_
        refine lv_bipush (v := (10 : Int32)) hx hb dX7_rest_59 (by decide) ?_
        refine lv_lload_n hx hb dX7_rest_61 rfl (lv_at hl 0 rfl) ?_
        refine va_callv (va_runV (As := [.int x1, .int (10 : Int32), .long x2_9]) (rest := []) ⟨hx, hb, C0.2.2.1, hown, hts⟩ (qX7_put l dC dI ad ci A hAD r_7 x1 (10 : Int32) x2_9 _ h) (cwV 3 hts gX7_rest_X7_put rfl rfl rfl (by decide +kernel) ⟨Nat.le_of_ble_eq_true rfl, Nat.le_of_ble_eq_true rfl⟩) ⟨xr_blind, xr_recv (r := (RX7, TX7, 9)) hK hP 0 (by decide) me_M rfl, xr_pre hP hK⟩ rfl rfl hl.1 rfl (lv_room (Nat.le_of_ble_eq_true rfl)) dX7_rest_62 ⟨Nat.le_of_ble_eq_true rfl, Nat.le_of_ble_eq_true rfl⟩) hS (fun _ _ h => h) (fun _ h => h) (fun r_10 t9 H locs ht hvm h hB _ _ hS => ?_)
        refine W.cs (cells' := 0) (slots' := 0) rfl rfl ?_
        have hP := x_th ht hB
        have hP : va_P (dC, dI) vwCl (xw 7 ad (mc ad ci r_10)) H := hP
        refine lv_aload_n hx hb dX7_rest_65 rfl (lv_at hl 1 rfl) ?_
        refine lv_iload_n hx hb dX7_rest_66 rfl (lv_at hl 2 rfl) ?_
        refine lv_iconst (v := (3 : Int32)) hx hb dX7_rest_67 (by decide) ?_
        refine lv_ldc2 (v := (-2000000005 : Int64)) hx hb hown (hts _ wX7_rest_k48) dX7_rest_68 ?_
        refine va_callv (va_runV (As := [.int x1, .int (3 : Int32), .long (-2000000005 : Int64)]) (rest := []) ⟨hx, hb, C0.2.2.1, hown, hts⟩ (qX7_put l dC dI ad ci A hAD r_10 x1 (3 : Int32) (-2000000005 : Int64) _ h) (cwV 3 hts gX7_rest_X7_put rfl rfl rfl (by decide +kernel) ⟨Nat.le_of_ble_eq_true rfl, Nat.le_of_ble_eq_true rfl⟩) ⟨xr_blind, xr_recv (r := (RX7, TX7, 9)) hK hP 0 (by decide) me_M rfl, xr_pre hP hK⟩ rfl rfl hl.1 rfl (lv_room (Nat.le_of_ble_eq_true rfl)) dX7_rest_71 ⟨Nat.le_of_ble_eq_true rfl, Nat.le_of_ble_eq_true rfl⟩) hS (fun _ _ h => h) (fun _ h => h) (fun r_11 t9 H locs ht hvm h hB _ _ hS => ?_)
        refine W.cs (cells' := 0) (slots' := 0) rfl rfl ?_
        have hP := x_th ht hB
        have hP : va_P (dC, dI) vwCl (xw 7 ad (mc ad ci r_11)) H := hP
        refine lv_aload_n hx hb dX7_rest_74 rfl (lv_at hl 1 rfl) ?_
        refine lv_iload_n hx hb dX7_rest_75 rfl (lv_at hl 2 rfl) ?_
        refine lv_bipush (v := (12 : Int32)) hx hb dX7_rest_76 (by decide) ?_
        refine lv_lconst (v := (0 : Int64)) hx hb dX7_rest_78 (by decide) ?_
        refine va_callv (va_runV (As := [.int x1, .int (12 : Int32), .long (0 : Int64)]) (rest := []) ⟨hx, hb, C0.2.2.1, hown, hts⟩ (qX7_put l dC dI ad ci A hAD r_11 x1 (12 : Int32) (0 : Int64) _ h) (cwV 3 hts gX7_rest_X7_put rfl rfl rfl (by decide +kernel) ⟨Nat.le_of_ble_eq_true rfl, Nat.le_of_ble_eq_true rfl⟩) ⟨xr_blind, xr_recv (r := (RX7, TX7, 9)) hK hP 0 (by decide) me_M rfl, xr_pre hP hK⟩ rfl rfl hl.1 rfl (lv_room (Nat.le_of_ble_eq_true rfl)) dX7_rest_79 ⟨Nat.le_of_ble_eq_true rfl, Nat.le_of_ble_eq_true rfl⟩) hS (fun _ _ h => h) (fun _ h => h) (fun r_12 t9 H locs ht hvm h hB _ _ hS => ?_)
        refine W.cs (cells' := 0) (slots' := 0) rfl rfl ?_
        have hP := x_th ht hB
        have hP : va_P (dC, dI) vwCl (xw 7 ad (mc ad ci r_12)) H := hP
        refine lv_lload_n hx hb dX7_rest_82 rfl (lv_at hl 0 rfl) ?_
        exact W.lret (v := x2_9) hx hb hr (fun t ht hW => ⟨⟨x2_9, r_12, rfl, h, x_ht ht hP⟩, hS.F ht⟩) hS.2.2 dX7_rest_83
      · have h := h.2 c_6
        refine lv_ldc2 (v := (-2000000002 : Int64)) hx hb hown (hts _ wX7_rest_k50) dX7_rest_33 ?_
        exact W.lret (v := (-2000000002 : Int64)) hx hb hr (fun t ht hW => ⟨⟨(-2000000002 : Int64), r, rfl, h, x_ht ht hP⟩, hS.F ht⟩) hS.2.2 dX7_rest_36
  · have h := h.1 c_2
    refine lv_ldc2 (v := (-2000000001 : Int64)) hx hb hown (hts _ wX7_rest_k73) dX7_rest_8 ?_
    exact W.lret (v := (-2000000001 : Int64)) hx hb hr (fun t ht hW => ⟨⟨(-2000000001 : Int64), r, rfl, h, x_ht ht hP⟩, hS.F ht⟩) hS.2.2 dX7_rest_11
abbrev rmX7_wake : Room := { frames := 3, cells := 0, slots := 0, locals := 67 }
theorem wX7_wake_k67 : Cond.constantLong RX7 67 (1125899906842624) ∈ wsX7_wake := by decide +kernel
theorem wX7_wake_k48 : Cond.constantLong RX7 48 (-2000000005) ∈ wsX7_wake := by decide +kernel
theorem wX7_wake_c7 : ∀ w ∈ u_ws RX7 TX7 9, w ∈ wsX7_wake := by decide +kernel
theorem wX7_wake_f7 : Cond.fieldLink RX7 7 "DueWheelsModel" "s" "[J" ∈ wsX7_wake := by decide +kernel
theorem wX7_wake_k50 : Cond.constantLong RX7 50 (-2000000002) ∈ wsX7_wake := by decide +kernel
theorem wX7_wake_k73 : Cond.constantLong RX7 73 (-2000000001) ∈ wsX7_wake := by decide +kernel
def PX7_wake  (r : MmV) (x1 : Int32) (post : Int64 → MmV → Prop) : Prop :=
  (PX7_isDue r x1 (fun (r_1 : Int32) => ((r_1 = 0 → post (-2000000001 : Int64) r) ∧ (¬ r_1 = 0 → (PX7_rests r x1 (fun (r_3 : Int32) => ((r_3 = 0 → post (-2000000002 : Int64) r) ∧ (¬ r_3 = 0 → (PX7_keep r (fun (r_5 : MmV) => (PX7_get r_5 x1 (10 : Int32) (fun (r_6 : Int64) => ∀ x2_7 : Int64, x2_7 = ((m_s r_5 3700) + r_6) → ((x2_7 ≤ (1125899906842624 : Int64) → (PX7_put r_5 x1 (10 : Int32) (-2000000005 : Int64) (fun (r_9 : MmV) => (PX7_tick r_9 x1 x2_7 (fun (r_10 : MmV) => (PX7_line r_10 x1 (fun (r_11 : MmV) => post x2_7 r_11))))))) ∧ (¬ x2_7 ≤ (1125899906842624 : Int64) → (PX7_put r_5 x1 (10 : Int32) (-2000000005 : Int64) (fun (r_12 : MmV) => (PX7_tick r_12 x1 (1125899906842624 : Int64) (fun (r_13 : MmV) => (PX7_line r_13 x1 (fun (r_14 : MmV) => post (1125899906842624 : Int64) r_14))))))))))))))))))))
set_option maxHeartbeats 4000000 in
set_option maxRecDepth 100000 in
theorem qX7_wake (l : Launch) (dC : Nat → ClassId) (dI : Nat → Nat → Nat) (ad : Nat → Nat) (ci : Nat → ClassId) (A : Nat → Prop) (hAD : xw_D 7 ad A) (r : MmV) (x1 : Int32) (post : Int64 → MmV → Prop) (h : PX7_wake r x1 post) : Met l yX7_wake wsX7_wake rmX7_wake (va_Pc [.ref (ad 0), .int x1] (fun U => va_P (dC, dI) vwCl (xw 7 ad (mc ad ci r)) U.heap ∧ va_K (dC, dI) vwCl (xT ci) U)) (va_Ql (fun r9 (u : MmV) => post r9 u) (fun u t => va_P (dC, dI) vwCl (xw 7 ad (mc ad ci u)) t.heap) A) 0 0 A := by
  refine Met.ofW (cc := cX7_wake) (maxL := 4) (ret := (some .long)) (by decide) rfl ?_
  intro p e s m args below meth c s₁ B hml hv
  obtain ⟨eargs, hP, hK⟩ := hv
  have C0 : xC p s m args meth c cX7_wake 4 (some .long) RX7 wsX7_wake (dC, dI) (xT ci) := ⟨B.exec, B.bytes, hml, B.returns, B.notSynchronized, findClass_of_methodNamed B.named, atoms_spec (ws := wsX7_wake) B.pre, hK⟩
  obtain ⟨hx, hb, -, hr, hlocks, hown, hts, -⟩ := id C0
  have hS : va_S A s.heap s.heap [] := va_S.rf
  have hl := lv_entry ([.ref (ad 0), .int x1]) (n := 4) (Nat.le_of_ble_eq_true rfl)
  have ef : entryFrame m args 4 = entryFrame m ([.ref (ad 0), .int x1] : List Value).toArray 4 := by rw [eargs]
  rw [ef, lg_entry_eq]
  generalize (lg_sl ([.ref (ad 0), .int x1]) ++ List.replicate (4 - (lg_sl ([.ref (ad 0), .int x1])).length) Slot.unset).toArray = ls at hl ⊢
  have hl : lv_has ls 4 [(0, .ref (ad 0)), (1, .int x1)] := hl
  have hP : va_P (dC, dI) vwCl (xw 7 ad (mc ad ci r)) s.heap := hP
  unfold PX7_wake at h
  refine lv_aload_n hx hb dX7_wake_0 rfl (lv_at hl 0 rfl) ?_
  refine lv_iload_n hx hb dX7_wake_1 rfl (lv_at hl 1 rfl) ?_
  refine va_calli (va_runV (As := [.int x1]) (rest := []) ⟨hx, hb, C0.2.2.1, hown, hts⟩ (qX7_isDue l dC dI ad ci A hAD r x1 _ h) (cwV 1 hts gX7_wake_X7_isDue rfl rfl rfl (by decide +kernel) ⟨Nat.le_of_ble_eq_true rfl, Nat.le_of_ble_eq_true rfl⟩) ⟨xr_blind, xr_recv (r := (RX7, TX7, 9)) hK hP 0 (by decide) me_M rfl, xr_pre hP hK⟩ rfl rfl hl.1 rfl (lv_room (Nat.le_of_ble_eq_true rfl)) dX7_wake_2 ⟨Nat.le_of_ble_eq_true rfl, Nat.le_of_ble_eq_true rfl⟩) hS (fun _ _ h => h) (fun _ h => h) (fun r_1 _ t9 H locs ht hvm h hB _ _ hS => ?_)
  refine W.cs (cells' := 0) (slots' := 0) rfl rfl ?_
  have hP := x_th ht hB
  have hP : va_P (dC, dI) vwCl (xw 7 ad (mc ad ci r)) H := hP
  refine lv_if_ne (tgt := 12) hx hb dX7_wake_5 (by decide) (fun c_2 => ?_) (fun c_2 => ?_)
  · have h := h.2 c_2
    refine lv_aload_n hx hb dX7_wake_12 rfl (lv_at hl 0 rfl) ?_
    refine lv_iload_n hx hb dX7_wake_13 rfl (lv_at hl 1 rfl) ?_
    refine va_calli (va_runV (As := [.int x1]) (rest := []) ⟨hx, hb, C0.2.2.1, hown, hts⟩ (qX7_rests l dC dI ad ci A hAD r x1 _ h) (cwV 1 hts gX7_wake_X7_rests rfl rfl rfl (by decide +kernel) ⟨Nat.le_of_ble_eq_true rfl, Nat.le_of_ble_eq_true rfl⟩) ⟨xr_blind, xr_recv (r := (RX7, TX7, 9)) hK hP 0 (by decide) me_M rfl, xr_pre hP hK⟩ rfl rfl hl.1 rfl (lv_room (Nat.le_of_ble_eq_true rfl)) dX7_wake_14 ⟨Nat.le_of_ble_eq_true rfl, Nat.le_of_ble_eq_true rfl⟩) hS (fun _ _ h => h) (fun _ h => h) (fun r_3 _ t9 H locs ht hvm h hB _ _ hS => ?_)
    refine W.cs (cells' := 0) (slots' := 0) rfl rfl ?_
    have hP := x_th ht hB
    have hP : va_P (dC, dI) vwCl (xw 7 ad (mc ad ci r)) H := hP
    refine lv_if_ne (tgt := 24) hx hb dX7_wake_17 (by decide) (fun c_4 => ?_) (fun c_4 => ?_)
    · have h := h.2 c_4
      refine lv_aload_n hx hb dX7_wake_24 rfl (lv_at hl 0 rfl) ?_
      refine va_callv (va_runV (As := []) (rest := []) ⟨hx, hb, C0.2.2.1, hown, hts⟩ (qX7_keep l dC dI ad ci A hAD r  _ h) (cwV 0 hts gX7_wake_X7_keep rfl rfl rfl (by decide +kernel) ⟨Nat.le_of_ble_eq_true rfl, Nat.le_of_ble_eq_true rfl⟩) ⟨xr_blind, xr_recv (r := (RX7, TX7, 9)) hK hP 0 (by decide) me_M rfl, xr_pre hP hK⟩ rfl rfl hl.1 rfl (lv_room (Nat.le_of_ble_eq_true rfl)) dX7_wake_25 ⟨Nat.le_of_ble_eq_true rfl, Nat.le_of_ble_eq_true rfl⟩) hS (fun _ _ h => h) (fun _ h => h) (fun r_5 t9 H locs ht hvm h hB _ _ hS => ?_)
      refine W.cs (cells' := 0) (slots' := 0) rfl rfl ?_
      have hP := x_th ht hB
      have hP : va_P (dC, dI) vwCl (xw 7 ad (mc ad ci r_5)) H := hP
      refine lv_aload_n hx hb dX7_wake_28 rfl (lv_at hl 0 rfl) ?_
      refine xr_get (D := (dC, dI)) (C := RX7) (T := TX7) (N := 9) (v := .ref (ad 1)) hx hb hts wX7_wake_c7 hown hK hP 0 (by decide) me_M rfl 0 (by decide) wX7_wake_f7 rfl rfl dX7_wake_29 ?_
      refine lv_sipush (v := (3700 : Int32)) hx hb dX7_wake_32 (by decide) ?_
      refine xr_lald (k := 3700) hx hb hK hP 1 1 (by decide) me_s rfl rfl (x_in _ _ (by decide)) dX7_wake_35 ?_
      refine lv_aload_n hx hb dX7_wake_36 rfl (lv_at hl 0 rfl) ?_
      refine lv_iload_n hx hb dX7_wake_37 rfl (lv_at hl 1 rfl) ?_
      refine lv_bipush (v := (10 : Int32)) hx hb dX7_wake_38 (by decide) ?_
      refine va_calll (va_runV (As := [.int x1, .int (10 : Int32)]) (rest := [.long (m_s r_5 3700)]) ⟨hx, hb, C0.2.2.1, hown, hts⟩ (qX7_get l dC dI ad ci A hAD r_5 x1 (10 : Int32) _ h) (cwV 2 hts gX7_wake_X7_get rfl rfl rfl (by decide +kernel) ⟨Nat.le_of_ble_eq_true rfl, Nat.le_of_ble_eq_true rfl⟩) ⟨xr_blind, xr_recv (r := (RX7, TX7, 9)) hK hP 0 (by decide) me_M rfl, xr_pre hP hK⟩ rfl rfl hl.1 rfl (lv_room (Nat.le_of_ble_eq_true rfl)) dX7_wake_40 ⟨Nat.le_of_ble_eq_true rfl, Nat.le_of_ble_eq_true rfl⟩) hS (fun _ _ h => h) (fun _ h => h) (fun r_6 _ t9 H locs ht hvm h hB _ _ hS => ?_)
      refine W.cs (cells' := 0) (slots' := 0) rfl rfl ?_
      have hP := x_th ht hB
      have hP : va_P (dC, dI) vwCl (xw 7 ad (mc ad ci r_5)) H := hP
      refine lv_ladd hx hb dX7_wake_43 ?_
      refine lv_topl (fun x2_7 ex2_7 => ?_)
      have h := h x2_7 ex2_7
      refine lv_lstore_n (lv' := [(2, .long x2_7), (0, .ref (ad 0)), (1, .int x1)]) hx hb dX7_wake_44 rfl hl (by decide) rfl (fun ls hl => ?_)
      refine lv_lload_n hx hb dX7_wake_45 rfl (lv_at hl 0 rfl) ?_
      refine lv_ldc2 (v := (1125899906842624 : Int64)) hx hb hown (hts _ wX7_wake_k67) dX7_wake_46 ?_
      refine xr_if_lcmp_le (tgt := 59) hx hb dX7_wake_49 dX7_wake_50 (by decide) (fun c_8 => ?_) (fun c_8 => ?_)
      · have h := h.1 c_8
        refine lv_lload_n hx hb dX7_wake_59 rfl (lv_at hl 0 rfl) ?_
        refine lv_lstore_n (lv' := [(2, .long x2_7), (0, .ref (ad 0)), (1, .int x1)]) hx hb dX7_wake_60 rfl hl (by decide) rfl (fun ls hl => ?_)
        refine lv_aload_n hx hb dX7_wake_61 rfl (lv_at hl 1 rfl) ?_
        refine lv_iload_n hx hb dX7_wake_62 rfl (lv_at hl 2 rfl) ?_
        refine lv_bipush (v := (10 : Int32)) hx hb dX7_wake_63 (by decide) ?_
        refine lv_ldc2 (v := (-2000000005 : Int64)) hx hb hown (hts _ wX7_wake_k48) dX7_wake_65 ?_
        refine va_callv (va_runV (As := [.int x1, .int (10 : Int32), .long (-2000000005 : Int64)]) (rest := []) ⟨hx, hb, C0.2.2.1, hown, hts⟩ (qX7_put l dC dI ad ci A hAD r_5 x1 (10 : Int32) (-2000000005 : Int64) _ h) (cwV 3 hts gX7_wake_X7_put rfl rfl rfl (by decide +kernel) ⟨Nat.le_of_ble_eq_true rfl, Nat.le_of_ble_eq_true rfl⟩) ⟨xr_blind, xr_recv (r := (RX7, TX7, 9)) hK hP 0 (by decide) me_M rfl, xr_pre hP hK⟩ rfl rfl hl.1 rfl (lv_room (Nat.le_of_ble_eq_true rfl)) dX7_wake_68 ⟨Nat.le_of_ble_eq_true rfl, Nat.le_of_ble_eq_true rfl⟩) hS (fun _ _ h => h) (fun _ h => h) (fun r_9 t9 H locs ht hvm h hB _ _ hS => ?_)
        refine W.cs (cells' := 0) (slots' := 0) rfl rfl ?_
        have hP := x_th ht hB
        have hP : va_P (dC, dI) vwCl (xw 7 ad (mc ad ci r_9)) H := hP
        refine lv_aload_n hx hb dX7_wake_71 rfl (lv_at hl 1 rfl) ?_
        refine lv_iload_n hx hb dX7_wake_72 rfl (lv_at hl 2 rfl) ?_
        refine lv_lload_n hx hb dX7_wake_73 rfl (lv_at hl 0 rfl) ?_
        refine va_callv (va_runV (As := [.int x1, .long x2_7]) (rest := []) ⟨hx, hb, C0.2.2.1, hown, hts⟩ (qX7_tick l dC dI ad ci A hAD r_9 x1 x2_7 _ h) (cwV 2 hts gX7_wake_X7_tick rfl rfl rfl (by decide +kernel) ⟨Nat.le_of_ble_eq_true rfl, Nat.le_of_ble_eq_true rfl⟩) ⟨xr_blind, xr_recv (r := (RX7, TX7, 9)) hK hP 0 (by decide) me_M rfl, xr_pre hP hK⟩ rfl rfl hl.1 rfl (lv_room (Nat.le_of_ble_eq_true rfl)) dX7_wake_74 ⟨Nat.le_of_ble_eq_true rfl, Nat.le_of_ble_eq_true rfl⟩) hS (fun _ _ h => h) (fun _ h => h) (fun r_10 t9 H locs ht hvm h hB _ _ hS => ?_)
        refine W.cs (cells' := 0) (slots' := 0) rfl rfl ?_
        have hP := x_th ht hB
        have hP : va_P (dC, dI) vwCl (xw 7 ad (mc ad ci r_10)) H := hP
        refine lv_aload_n hx hb dX7_wake_77 rfl (lv_at hl 1 rfl) ?_
        refine lv_iload_n hx hb dX7_wake_78 rfl (lv_at hl 2 rfl) ?_
        refine va_callv (va_runV (As := [.int x1]) (rest := []) ⟨hx, hb, C0.2.2.1, hown, hts⟩ (qX7_line l dC dI ad ci A hAD r_10 x1 _ h) (cwV 1 hts gX7_wake_X7_line rfl rfl rfl (by decide +kernel) ⟨Nat.le_of_ble_eq_true rfl, Nat.le_of_ble_eq_true rfl⟩) ⟨xr_blind, xr_recv (r := (RX7, TX7, 9)) hK hP 0 (by decide) me_M rfl, xr_pre hP hK⟩ rfl rfl hl.1 rfl (lv_room (Nat.le_of_ble_eq_true rfl)) dX7_wake_79 ⟨Nat.le_of_ble_eq_true rfl, Nat.le_of_ble_eq_true rfl⟩) hS (fun _ _ h => h) (fun _ h => h) (fun r_11 t9 H locs ht hvm h hB _ _ hS => ?_)
        refine W.cs (cells' := 0) (slots' := 0) rfl rfl ?_
        have hP := x_th ht hB
        have hP : va_P (dC, dI) vwCl (xw 7 ad (mc ad ci r_11)) H := hP
        refine lv_lload_n hx hb dX7_wake_82 rfl (lv_at hl 0 rfl) ?_
        exact W.lret (v := x2_7) hx hb hr (fun t ht hW => ⟨⟨x2_7, r_11, rfl, h, x_ht ht hP⟩, hS.F ht⟩) hS.2.2 dX7_wake_83
      · have h := h.2 c_8
        refine lv_ldc2 (v := (1125899906842624 : Int64)) hx hb hown (hts _ wX7_wake_k67) dX7_wake_53 ?_
        refine lv_goto (tgt := 60) hx hb dX7_wake_56 (by decide) ?_
        refine lv_lstore_n (lv' := [(2, .long (1125899906842624 : Int64)), (0, .ref (ad 0)), (1, .int x1)]) hx hb dX7_wake_60 rfl hl (by decide) rfl (fun ls hl => ?_)
        refine lv_aload_n hx hb dX7_wake_61 rfl (lv_at hl 1 rfl) ?_
        refine lv_iload_n hx hb dX7_wake_62 rfl (lv_at hl 2 rfl) ?_
        refine lv_bipush (v := (10 : Int32)) hx hb dX7_wake_63 (by decide) ?_
        refine lv_ldc2 (v := (-2000000005 : Int64)) hx hb hown (hts _ wX7_wake_k48) dX7_wake_65 ?_
        refine va_callv (va_runV (As := [.int x1, .int (10 : Int32), .long (-2000000005 : Int64)]) (rest := []) ⟨hx, hb, C0.2.2.1, hown, hts⟩ (qX7_put l dC dI ad ci A hAD r_5 x1 (10 : Int32) (-2000000005 : Int64) _ h) (cwV 3 hts gX7_wake_X7_put rfl rfl rfl (by decide +kernel) ⟨Nat.le_of_ble_eq_true rfl, Nat.le_of_ble_eq_true rfl⟩) ⟨xr_blind, xr_recv (r := (RX7, TX7, 9)) hK hP 0 (by decide) me_M rfl, xr_pre hP hK⟩ rfl rfl hl.1 rfl (lv_room (Nat.le_of_ble_eq_true rfl)) dX7_wake_68 ⟨Nat.le_of_ble_eq_true rfl, Nat.le_of_ble_eq_true rfl⟩) hS (fun _ _ h => h) (fun _ h => h) (fun r_12 t9 H locs ht hvm h hB _ _ hS => ?_)
        refine W.cs (cells' := 0) (slots' := 0) rfl rfl ?_
        have hP := x_th ht hB
        have hP : va_P (dC, dI) vwCl (xw 7 ad (mc ad ci r_12)) H := hP
        refine lv_aload_n hx hb dX7_wake_71 rfl (lv_at hl 1 rfl) ?_
        refine lv_iload_n hx hb dX7_wake_72 rfl (lv_at hl 2 rfl) ?_
        refine lv_lload_n hx hb dX7_wake_73 rfl (lv_at hl 0 rfl) ?_
        refine va_callv (va_runV (As := [.int x1, .long (1125899906842624 : Int64)]) (rest := []) ⟨hx, hb, C0.2.2.1, hown, hts⟩ (qX7_tick l dC dI ad ci A hAD r_12 x1 (1125899906842624 : Int64) _ h) (cwV 2 hts gX7_wake_X7_tick rfl rfl rfl (by decide +kernel) ⟨Nat.le_of_ble_eq_true rfl, Nat.le_of_ble_eq_true rfl⟩) ⟨xr_blind, xr_recv (r := (RX7, TX7, 9)) hK hP 0 (by decide) me_M rfl, xr_pre hP hK⟩ rfl rfl hl.1 rfl (lv_room (Nat.le_of_ble_eq_true rfl)) dX7_wake_74 ⟨Nat.le_of_ble_eq_true rfl, Nat.le_of_ble_eq_true rfl⟩) hS (fun _ _ h => h) (fun _ h => h) (fun r_13 t9 H locs ht hvm h hB _ _ hS => ?_)
        refine W.cs (cells' := 0) (slots' := 0) rfl rfl ?_
        have hP := x_th ht hB
        have hP : va_P (dC, dI) vwCl (xw 7 ad (mc ad ci r_13)) H := hP
        refine lv_aload_n hx hb dX7_wake_77 rfl (lv_at hl 1 rfl) ?_
        refine lv_iload_n hx hb dX7_wake_78 rfl (lv_at hl 2 rfl) ?_
        refine va_callv (va_runV (As := [.int x1]) (rest := []) ⟨hx, hb, C0.2.2.1, hown, hts⟩ (qX7_line l dC dI ad ci A hAD r_13 x1 _ h) (cwV 1 hts gX7_wake_X7_line rfl rfl rfl (by decide +kernel) ⟨Nat.le_of_ble_eq_true rfl, Nat.le_of_ble_eq_true rfl⟩) ⟨xr_blind, xr_recv (r := (RX7, TX7, 9)) hK hP 0 (by decide) me_M rfl, xr_pre hP hK⟩ rfl rfl hl.1 rfl (lv_room (Nat.le_of_ble_eq_true rfl)) dX7_wake_79 ⟨Nat.le_of_ble_eq_true rfl, Nat.le_of_ble_eq_true rfl⟩) hS (fun _ _ h => h) (fun _ h => h) (fun r_14 t9 H locs ht hvm h hB _ _ hS => ?_)
        refine W.cs (cells' := 0) (slots' := 0) rfl rfl ?_
        have hP := x_th ht hB
        have hP : va_P (dC, dI) vwCl (xw 7 ad (mc ad ci r_14)) H := hP
        refine lv_lload_n hx hb dX7_wake_82 rfl (lv_at hl 0 rfl) ?_
        exact W.lret (v := (1125899906842624 : Int64)) hx hb hr (fun t ht hW => ⟨⟨(1125899906842624 : Int64), r_14, rfl, h, x_ht ht hP⟩, hS.F ht⟩) hS.2.2 dX7_wake_83
    · have h := h.1 c_4
      refine lv_ldc2 (v := (-2000000002 : Int64)) hx hb hown (hts _ wX7_wake_k50) dX7_wake_20 ?_
      exact W.lret (v := (-2000000002 : Int64)) hx hb hr (fun t ht hW => ⟨⟨(-2000000002 : Int64), r, rfl, h, x_ht ht hP⟩, hS.F ht⟩) hS.2.2 dX7_wake_23
  · have h := h.1 c_2
    refine lv_ldc2 (v := (-2000000001 : Int64)) hx hb hown (hts _ wX7_wake_k73) dX7_wake_8 ?_
    exact W.lret (v := (-2000000001 : Int64)) hx hb hr (fun t ht hW => ⟨⟨(-2000000001 : Int64), r, rfl, h, x_ht ht hP⟩, hS.F ht⟩) hS.2.2 dX7_wake_11
abbrev rmX7_about : Room := { frames := 2, cells := 0, slots := 0, locals := 46 }
theorem wX7_about_k73 : Cond.constantLong RX7 73 (-2000000001) ∈ wsX7_about := by decide +kernel
theorem wX7_about_k112 : Cond.constantLong RX7 112 (8) ∈ wsX7_about := by decide +kernel
def PX7_about  (r : MmV) (x1 : Int32) (x2 : Int32) (post : Int64 → Prop) : Prop :=
  (PX7_isDue r x1 (fun (r_1 : Int32) => ((r_1 = 0 → post (-2000000001 : Int64)) ∧ (¬ r_1 = 0 → (PX7_isIn (x2.toInt64) (0 : Int64) (8 : Int64) (fun (r_3 : Int32) => ((r_3 = 0 → post (-2000000001 : Int64)) ∧ (¬ r_3 = 0 → ((x2 = 0 → (PX7_get r x1 (1 : Int32) (fun (r_6 : Int64) => post r_6))) ∧ (¬ x2 = 0 → ((x2 = 1 → (PX7_get r x1 (2 : Int32) (fun (r_8 : Int64) => post r_8))) ∧ (¬ x2 = 1 → ((x2 = 2 → (PX7_get r x1 (3 : Int32) (fun (r_10 : Int64) => post r_10))) ∧ (¬ x2 = 2 → ((x2 = 3 → (PX7_get r x1 (4 : Int32) (fun (r_12 : Int64) => post r_12))) ∧ (¬ x2 = 3 → ((x2 = 4 → (PX7_get r x1 (5 : Int32) (fun (r_14 : Int64) => post r_14))) ∧ (¬ x2 = 4 → ((x2 = 5 → (PX7_get r x1 (6 : Int32) (fun (r_16 : Int64) => post r_16))) ∧ (¬ x2 = 5 → ((x2 = 6 → (PX7_get r x1 (7 : Int32) (fun (r_18 : Int64) => post r_18))) ∧ (¬ x2 = 6 → ((x2 = 7 → (PX7_get r x1 (10 : Int32) (fun (r_20 : Int64) => post r_20))) ∧ (¬ x2 = 7 → (PX7_get r x1 (11 : Int32) (fun (r_21 : Int64) => post r_21))))))))))))))))))))))))))
set_option maxHeartbeats 4000000 in
set_option maxRecDepth 100000 in
theorem qX7_about (l : Launch) (dC : Nat → ClassId) (dI : Nat → Nat → Nat) (ad : Nat → Nat) (ci : Nat → ClassId) (A : Nat → Prop) (hAD : xw_D 7 ad A) (r : MmV) (x1 : Int32) (x2 : Int32) (post : Int64 → Prop) (h : PX7_about r x1 x2 post) : Met l yX7_about wsX7_about rmX7_about (va_Pc [.ref (ad 0), .int x1, .int x2] (fun U => va_P (dC, dI) vwCl (xw 7 ad (mc ad ci r)) U.heap ∧ va_K (dC, dI) vwCl (xT ci) U)) (va_Ql (fun r9 (u : Unit) => post r9 ) (fun u t => va_P (dC, dI) vwCl (xw 7 ad (mc ad ci r)) t.heap) A) 0 0 A := by
  refine Met.ofW (cc := cX7_about) (maxL := 3) (ret := (some .long)) (by decide) rfl ?_
  intro p e s m args below meth c s₁ B hml hv
  obtain ⟨eargs, hP, hK⟩ := hv
  have C0 : xC p s m args meth c cX7_about 3 (some .long) RX7 wsX7_about (dC, dI) (xT ci) := ⟨B.exec, B.bytes, hml, B.returns, B.notSynchronized, findClass_of_methodNamed B.named, atoms_spec (ws := wsX7_about) B.pre, hK⟩
  obtain ⟨hx, hb, -, hr, hlocks, hown, hts, -⟩ := id C0
  have hS : va_S A s.heap s.heap [] := va_S.rf
  have hl := lv_entry ([.ref (ad 0), .int x1, .int x2]) (n := 3) (Nat.le_of_ble_eq_true rfl)
  have ef : entryFrame m args 3 = entryFrame m ([.ref (ad 0), .int x1, .int x2] : List Value).toArray 3 := by rw [eargs]
  rw [ef, lg_entry_eq]
  generalize (lg_sl ([.ref (ad 0), .int x1, .int x2]) ++ List.replicate (3 - (lg_sl ([.ref (ad 0), .int x1, .int x2])).length) Slot.unset).toArray = ls at hl ⊢
  have hl : lv_has ls 3 [(0, .ref (ad 0)), (1, .int x1), (2, .int x2)] := hl
  have hP : va_P (dC, dI) vwCl (xw 7 ad (mc ad ci r)) s.heap := hP
  unfold PX7_about at h
  refine lv_aload_n hx hb dX7_about_0 rfl (lv_at hl 0 rfl) ?_
  refine lv_iload_n hx hb dX7_about_1 rfl (lv_at hl 1 rfl) ?_
  refine va_calli (va_runV (As := [.int x1]) (rest := []) ⟨hx, hb, C0.2.2.1, hown, hts⟩ (qX7_isDue l dC dI ad ci A hAD r x1 _ h) (cwV 1 hts gX7_about_X7_isDue rfl rfl rfl (by decide +kernel) ⟨Nat.le_of_ble_eq_true rfl, Nat.le_of_ble_eq_true rfl⟩) ⟨xr_blind, xr_recv (r := (RX7, TX7, 9)) hK hP 0 (by decide) me_M rfl, xr_pre hP hK⟩ rfl rfl hl.1 rfl (lv_room (Nat.le_of_ble_eq_true rfl)) dX7_about_2 ⟨Nat.le_of_ble_eq_true rfl, Nat.le_of_ble_eq_true rfl⟩) hS (fun _ _ h => h) (fun _ h => h) (fun r_1 _ t9 H locs ht hvm h hB _ _ hS => ?_)
  refine W.cs (cells' := 0) (slots' := 0) rfl rfl ?_
  have hP := x_th ht hB
  have hP : va_P (dC, dI) vwCl (xw 7 ad (mc ad ci r)) H := hP
  refine lv_if_eq (tgt := 20) hx hb dX7_about_5 (by decide) (fun c_2 => ?_) (fun c_2 => ?_)
  · have h := h.1 c_2
    refine lv_ldc2 (v := (-2000000001 : Int64)) hx hb hown (hts _ wX7_about_k73) dX7_about_20 ?_
    exact W.lret (v := (-2000000001 : Int64)) hx hb hr (fun t ht hW => ⟨⟨(-2000000001 : Int64), (), rfl, h, x_ht ht hP⟩, hS.F ht⟩) hS.2.2 dX7_about_23
  · have h := h.2 c_2
    refine lv_iload_n hx hb dX7_about_8 rfl (lv_at hl 2 rfl) ?_
    refine lv_i2l hx hb dX7_about_9 rfl ?_
    refine lv_lconst (v := (0 : Int64)) hx hb dX7_about_10 (by decide) ?_
    refine lv_ldc2 (v := (8 : Int64)) hx hb hown (hts _ wX7_about_k112) dX7_about_11 ?_
    refine va_calli (va_runS (As := [.long (x2.toInt64), .long (0 : Int64), .long (8 : Int64)]) (rest := []) ⟨hx, hb, C0.2.2.1, hown, hts⟩ (qX7_isIn l dC dI 7 ad (mc ad ci r) (xT ci) A (x2.toInt64) (0 : Int64) (8 : Int64) _ h) (va_cwS 3 hts gX7_about_X7_isIn rfl rfl rfl (by decide +kernel) ⟨Nat.le_of_ble_eq_true rfl, Nat.le_of_ble_eq_true rfl⟩) ⟨xr_blind, xr_pre hP hK⟩ rfl rfl hl.1 rfl (lv_room (Nat.le_of_ble_eq_true rfl)) dX7_about_14 ⟨Nat.le_of_ble_eq_true rfl, Nat.le_of_ble_eq_true rfl⟩) hS (fun _ _ h => h) (fun _ h => h) (fun r_3 _ t9 H locs ht hvm h hB _ _ hS => ?_)
    refine W.cs (cells' := 0) (slots' := 0) rfl rfl ?_
    have hP := x_th ht hB
    have hP : va_P (dC, dI) vwCl (xw 7 ad (mc ad ci r)) H := hP
    refine lv_if_ne (tgt := 24) hx hb dX7_about_17 (by decide) (fun c_4 => ?_) (fun c_4 => ?_)
    · have h := h.2 c_4
      refine lv_iload_n hx hb dX7_about_24 rfl (lv_at hl 2 rfl) ?_
      by_cases c_5 : x2 = 0
      · have h := h.1 c_5
        refine lv_tableIn (tgt := 72) (off := 47) hx hb dX7_about_25 (by rw [c_5]; decide) (by rw [c_5]; decide) (by rw [c_5]; rfl) (by decide) ?_
        refine lv_aload_n hx hb dX7_about_72 rfl (lv_at hl 0 rfl) ?_
        refine lv_iload_n hx hb dX7_about_73 rfl (lv_at hl 1 rfl) ?_
        refine lv_iconst (v := (1 : Int32)) hx hb dX7_about_74 (by decide) ?_
        refine va_calll (va_runV (As := [.int x1, .int (1 : Int32)]) (rest := []) ⟨hx, hb, C0.2.2.1, hown, hts⟩ (qX7_get l dC dI ad ci A hAD r x1 (1 : Int32) _ h) (cwV 2 hts gX7_about_X7_get rfl rfl rfl (by decide +kernel) ⟨Nat.le_of_ble_eq_true rfl, Nat.le_of_ble_eq_true rfl⟩) ⟨xr_blind, xr_recv (r := (RX7, TX7, 9)) hK hP 0 (by decide) me_M rfl, xr_pre hP hK⟩ rfl rfl hl.1 rfl (lv_room (Nat.le_of_ble_eq_true rfl)) dX7_about_75 ⟨Nat.le_of_ble_eq_true rfl, Nat.le_of_ble_eq_true rfl⟩) hS (fun _ _ h => h) (fun _ h => h) (fun r_6 _ t9 H locs ht hvm h hB _ _ hS => ?_)
        refine W.cs (cells' := 0) (slots' := 0) rfl rfl ?_
        have hP := x_th ht hB
        have hP : va_P (dC, dI) vwCl (xw 7 ad (mc ad ci r)) H := hP
        exact W.lret (v := r_6) hx hb hr (fun t ht hW => ⟨⟨r_6, (), rfl, h, x_ht ht hP⟩, hS.F ht⟩) hS.2.2 dX7_about_78
      have h := h.2 c_5
      by_cases c_7 : x2 = 1
      · have h := h.1 c_7
        refine lv_tableIn (tgt := 79) (off := 54) hx hb dX7_about_25 (by rw [c_7]; decide) (by rw [c_7]; decide) (by rw [c_7]; rfl) (by decide) ?_
        refine lv_aload_n hx hb dX7_about_79 rfl (lv_at hl 0 rfl) ?_
        refine lv_iload_n hx hb dX7_about_80 rfl (lv_at hl 1 rfl) ?_
        refine lv_iconst (v := (2 : Int32)) hx hb dX7_about_81 (by decide) ?_
        refine va_calll (va_runV (As := [.int x1, .int (2 : Int32)]) (rest := []) ⟨hx, hb, C0.2.2.1, hown, hts⟩ (qX7_get l dC dI ad ci A hAD r x1 (2 : Int32) _ h) (cwV 2 hts gX7_about_X7_get rfl rfl rfl (by decide +kernel) ⟨Nat.le_of_ble_eq_true rfl, Nat.le_of_ble_eq_true rfl⟩) ⟨xr_blind, xr_recv (r := (RX7, TX7, 9)) hK hP 0 (by decide) me_M rfl, xr_pre hP hK⟩ rfl rfl hl.1 rfl (lv_room (Nat.le_of_ble_eq_true rfl)) dX7_about_82 ⟨Nat.le_of_ble_eq_true rfl, Nat.le_of_ble_eq_true rfl⟩) hS (fun _ _ h => h) (fun _ h => h) (fun r_8 _ t9 H locs ht hvm h hB _ _ hS => ?_)
        refine W.cs (cells' := 0) (slots' := 0) rfl rfl ?_
        have hP := x_th ht hB
        have hP : va_P (dC, dI) vwCl (xw 7 ad (mc ad ci r)) H := hP
        exact W.lret (v := r_8) hx hb hr (fun t ht hW => ⟨⟨r_8, (), rfl, h, x_ht ht hP⟩, hS.F ht⟩) hS.2.2 dX7_about_85
      have h := h.2 c_7
      by_cases c_9 : x2 = 2
      · have h := h.1 c_9
        refine lv_tableIn (tgt := 86) (off := 61) hx hb dX7_about_25 (by rw [c_9]; decide) (by rw [c_9]; decide) (by rw [c_9]; rfl) (by decide) ?_
        refine lv_aload_n hx hb dX7_about_86 rfl (lv_at hl 0 rfl) ?_
        refine lv_iload_n hx hb dX7_about_87 rfl (lv_at hl 1 rfl) ?_
        refine lv_iconst (v := (3 : Int32)) hx hb dX7_about_88 (by decide) ?_
        refine va_calll (va_runV (As := [.int x1, .int (3 : Int32)]) (rest := []) ⟨hx, hb, C0.2.2.1, hown, hts⟩ (qX7_get l dC dI ad ci A hAD r x1 (3 : Int32) _ h) (cwV 2 hts gX7_about_X7_get rfl rfl rfl (by decide +kernel) ⟨Nat.le_of_ble_eq_true rfl, Nat.le_of_ble_eq_true rfl⟩) ⟨xr_blind, xr_recv (r := (RX7, TX7, 9)) hK hP 0 (by decide) me_M rfl, xr_pre hP hK⟩ rfl rfl hl.1 rfl (lv_room (Nat.le_of_ble_eq_true rfl)) dX7_about_89 ⟨Nat.le_of_ble_eq_true rfl, Nat.le_of_ble_eq_true rfl⟩) hS (fun _ _ h => h) (fun _ h => h) (fun r_10 _ t9 H locs ht hvm h hB _ _ hS => ?_)
        refine W.cs (cells' := 0) (slots' := 0) rfl rfl ?_
        have hP := x_th ht hB
        have hP : va_P (dC, dI) vwCl (xw 7 ad (mc ad ci r)) H := hP
        exact W.lret (v := r_10) hx hb hr (fun t ht hW => ⟨⟨r_10, (), rfl, h, x_ht ht hP⟩, hS.F ht⟩) hS.2.2 dX7_about_92
      have h := h.2 c_9
      by_cases c_11 : x2 = 3
      · have h := h.1 c_11
        refine lv_tableIn (tgt := 93) (off := 68) hx hb dX7_about_25 (by rw [c_11]; decide) (by rw [c_11]; decide) (by rw [c_11]; rfl) (by decide) ?_
        refine lv_aload_n hx hb dX7_about_93 rfl (lv_at hl 0 rfl) ?_
        refine lv_iload_n hx hb dX7_about_94 rfl (lv_at hl 1 rfl) ?_
        refine lv_iconst (v := (4 : Int32)) hx hb dX7_about_95 (by decide) ?_
        refine va_calll (va_runV (As := [.int x1, .int (4 : Int32)]) (rest := []) ⟨hx, hb, C0.2.2.1, hown, hts⟩ (qX7_get l dC dI ad ci A hAD r x1 (4 : Int32) _ h) (cwV 2 hts gX7_about_X7_get rfl rfl rfl (by decide +kernel) ⟨Nat.le_of_ble_eq_true rfl, Nat.le_of_ble_eq_true rfl⟩) ⟨xr_blind, xr_recv (r := (RX7, TX7, 9)) hK hP 0 (by decide) me_M rfl, xr_pre hP hK⟩ rfl rfl hl.1 rfl (lv_room (Nat.le_of_ble_eq_true rfl)) dX7_about_96 ⟨Nat.le_of_ble_eq_true rfl, Nat.le_of_ble_eq_true rfl⟩) hS (fun _ _ h => h) (fun _ h => h) (fun r_12 _ t9 H locs ht hvm h hB _ _ hS => ?_)
        refine W.cs (cells' := 0) (slots' := 0) rfl rfl ?_
        have hP := x_th ht hB
        have hP : va_P (dC, dI) vwCl (xw 7 ad (mc ad ci r)) H := hP
        exact W.lret (v := r_12) hx hb hr (fun t ht hW => ⟨⟨r_12, (), rfl, h, x_ht ht hP⟩, hS.F ht⟩) hS.2.2 dX7_about_99
      have h := h.2 c_11
      by_cases c_13 : x2 = 4
      · have h := h.1 c_13
        refine lv_tableIn (tgt := 100) (off := 75) hx hb dX7_about_25 (by rw [c_13]; decide) (by rw [c_13]; decide) (by rw [c_13]; rfl) (by decide) ?_
        refine lv_aload_n hx hb dX7_about_100 rfl (lv_at hl 0 rfl) ?_
        refine lv_iload_n hx hb dX7_about_101 rfl (lv_at hl 1 rfl) ?_
        refine lv_iconst (v := (5 : Int32)) hx hb dX7_about_102 (by decide) ?_
        refine va_calll (va_runV (As := [.int x1, .int (5 : Int32)]) (rest := []) ⟨hx, hb, C0.2.2.1, hown, hts⟩ (qX7_get l dC dI ad ci A hAD r x1 (5 : Int32) _ h) (cwV 2 hts gX7_about_X7_get rfl rfl rfl (by decide +kernel) ⟨Nat.le_of_ble_eq_true rfl, Nat.le_of_ble_eq_true rfl⟩) ⟨xr_blind, xr_recv (r := (RX7, TX7, 9)) hK hP 0 (by decide) me_M rfl, xr_pre hP hK⟩ rfl rfl hl.1 rfl (lv_room (Nat.le_of_ble_eq_true rfl)) dX7_about_103 ⟨Nat.le_of_ble_eq_true rfl, Nat.le_of_ble_eq_true rfl⟩) hS (fun _ _ h => h) (fun _ h => h) (fun r_14 _ t9 H locs ht hvm h hB _ _ hS => ?_)
        refine W.cs (cells' := 0) (slots' := 0) rfl rfl ?_
        have hP := x_th ht hB
        have hP : va_P (dC, dI) vwCl (xw 7 ad (mc ad ci r)) H := hP
        exact W.lret (v := r_14) hx hb hr (fun t ht hW => ⟨⟨r_14, (), rfl, h, x_ht ht hP⟩, hS.F ht⟩) hS.2.2 dX7_about_106
      have h := h.2 c_13
      by_cases c_15 : x2 = 5
      · have h := h.1 c_15
        refine lv_tableIn (tgt := 107) (off := 82) hx hb dX7_about_25 (by rw [c_15]; decide) (by rw [c_15]; decide) (by rw [c_15]; rfl) (by decide) ?_
        refine lv_aload_n hx hb dX7_about_107 rfl (lv_at hl 0 rfl) ?_
        refine lv_iload_n hx hb dX7_about_108 rfl (lv_at hl 1 rfl) ?_
        refine lv_bipush (v := (6 : Int32)) hx hb dX7_about_109 (by decide) ?_
        refine va_calll (va_runV (As := [.int x1, .int (6 : Int32)]) (rest := []) ⟨hx, hb, C0.2.2.1, hown, hts⟩ (qX7_get l dC dI ad ci A hAD r x1 (6 : Int32) _ h) (cwV 2 hts gX7_about_X7_get rfl rfl rfl (by decide +kernel) ⟨Nat.le_of_ble_eq_true rfl, Nat.le_of_ble_eq_true rfl⟩) ⟨xr_blind, xr_recv (r := (RX7, TX7, 9)) hK hP 0 (by decide) me_M rfl, xr_pre hP hK⟩ rfl rfl hl.1 rfl (lv_room (Nat.le_of_ble_eq_true rfl)) dX7_about_111 ⟨Nat.le_of_ble_eq_true rfl, Nat.le_of_ble_eq_true rfl⟩) hS (fun _ _ h => h) (fun _ h => h) (fun r_16 _ t9 H locs ht hvm h hB _ _ hS => ?_)
        refine W.cs (cells' := 0) (slots' := 0) rfl rfl ?_
        have hP := x_th ht hB
        have hP : va_P (dC, dI) vwCl (xw 7 ad (mc ad ci r)) H := hP
        exact W.lret (v := r_16) hx hb hr (fun t ht hW => ⟨⟨r_16, (), rfl, h, x_ht ht hP⟩, hS.F ht⟩) hS.2.2 dX7_about_114
      have h := h.2 c_15
      by_cases c_17 : x2 = 6
      · have h := h.1 c_17
        refine lv_tableIn (tgt := 115) (off := 90) hx hb dX7_about_25 (by rw [c_17]; decide) (by rw [c_17]; decide) (by rw [c_17]; rfl) (by decide) ?_
        refine lv_aload_n hx hb dX7_about_115 rfl (lv_at hl 0 rfl) ?_
        refine lv_iload_n hx hb dX7_about_116 rfl (lv_at hl 1 rfl) ?_
        refine lv_bipush (v := (7 : Int32)) hx hb dX7_about_117 (by decide) ?_
        refine va_calll (va_runV (As := [.int x1, .int (7 : Int32)]) (rest := []) ⟨hx, hb, C0.2.2.1, hown, hts⟩ (qX7_get l dC dI ad ci A hAD r x1 (7 : Int32) _ h) (cwV 2 hts gX7_about_X7_get rfl rfl rfl (by decide +kernel) ⟨Nat.le_of_ble_eq_true rfl, Nat.le_of_ble_eq_true rfl⟩) ⟨xr_blind, xr_recv (r := (RX7, TX7, 9)) hK hP 0 (by decide) me_M rfl, xr_pre hP hK⟩ rfl rfl hl.1 rfl (lv_room (Nat.le_of_ble_eq_true rfl)) dX7_about_119 ⟨Nat.le_of_ble_eq_true rfl, Nat.le_of_ble_eq_true rfl⟩) hS (fun _ _ h => h) (fun _ h => h) (fun r_18 _ t9 H locs ht hvm h hB _ _ hS => ?_)
        refine W.cs (cells' := 0) (slots' := 0) rfl rfl ?_
        have hP := x_th ht hB
        have hP : va_P (dC, dI) vwCl (xw 7 ad (mc ad ci r)) H := hP
        exact W.lret (v := r_18) hx hb hr (fun t ht hW => ⟨⟨r_18, (), rfl, h, x_ht ht hP⟩, hS.F ht⟩) hS.2.2 dX7_about_122
      have h := h.2 c_17
      by_cases c_19 : x2 = 7
      · have h := h.1 c_19
        refine lv_tableIn (tgt := 123) (off := 98) hx hb dX7_about_25 (by rw [c_19]; decide) (by rw [c_19]; decide) (by rw [c_19]; rfl) (by decide) ?_
        refine lv_aload_n hx hb dX7_about_123 rfl (lv_at hl 0 rfl) ?_
        refine lv_iload_n hx hb dX7_about_124 rfl (lv_at hl 1 rfl) ?_
        refine lv_bipush (v := (10 : Int32)) hx hb dX7_about_125 (by decide) ?_
        refine va_calll (va_runV (As := [.int x1, .int (10 : Int32)]) (rest := []) ⟨hx, hb, C0.2.2.1, hown, hts⟩ (qX7_get l dC dI ad ci A hAD r x1 (10 : Int32) _ h) (cwV 2 hts gX7_about_X7_get rfl rfl rfl (by decide +kernel) ⟨Nat.le_of_ble_eq_true rfl, Nat.le_of_ble_eq_true rfl⟩) ⟨xr_blind, xr_recv (r := (RX7, TX7, 9)) hK hP 0 (by decide) me_M rfl, xr_pre hP hK⟩ rfl rfl hl.1 rfl (lv_room (Nat.le_of_ble_eq_true rfl)) dX7_about_127 ⟨Nat.le_of_ble_eq_true rfl, Nat.le_of_ble_eq_true rfl⟩) hS (fun _ _ h => h) (fun _ h => h) (fun r_20 _ t9 H locs ht hvm h hB _ _ hS => ?_)
        refine W.cs (cells' := 0) (slots' := 0) rfl rfl ?_
        have hP := x_th ht hB
        have hP : va_P (dC, dI) vwCl (xw 7 ad (mc ad ci r)) H := hP
        exact W.lret (v := r_20) hx hb hr (fun t ht hW => ⟨⟨r_20, (), rfl, h, x_ht ht hP⟩, hS.F ht⟩) hS.2.2 dX7_about_130
      have h := h.2 c_19
      refine lv_tableOut (tgt := 131) hx hb dX7_about_25 (x_sw8 c_5 c_7 c_9 c_11 c_13 c_15 c_17 c_19) (by decide) ?_
      refine lv_aload_n hx hb dX7_about_131 rfl (lv_at hl 0 rfl) ?_
      refine lv_iload_n hx hb dX7_about_132 rfl (lv_at hl 1 rfl) ?_
      refine lv_bipush (v := (11 : Int32)) hx hb dX7_about_133 (by decide) ?_
      refine va_calll (va_runV (As := [.int x1, .int (11 : Int32)]) (rest := []) ⟨hx, hb, C0.2.2.1, hown, hts⟩ (qX7_get l dC dI ad ci A hAD r x1 (11 : Int32) _ h) (cwV 2 hts gX7_about_X7_get rfl rfl rfl (by decide +kernel) ⟨Nat.le_of_ble_eq_true rfl, Nat.le_of_ble_eq_true rfl⟩) ⟨xr_blind, xr_recv (r := (RX7, TX7, 9)) hK hP 0 (by decide) me_M rfl, xr_pre hP hK⟩ rfl rfl hl.1 rfl (lv_room (Nat.le_of_ble_eq_true rfl)) dX7_about_135 ⟨Nat.le_of_ble_eq_true rfl, Nat.le_of_ble_eq_true rfl⟩) hS (fun _ _ h => h) (fun _ h => h) (fun r_21 _ t9 H locs ht hvm h hB _ _ hS => ?_)
      refine W.cs (cells' := 0) (slots' := 0) rfl rfl ?_
      have hP := x_th ht hB
      have hP : va_P (dC, dI) vwCl (xw 7 ad (mc ad ci r)) H := hP
      exact W.lret (v := r_21) hx hb hr (fun t ht hW => ⟨⟨r_21, (), rfl, h, x_ht ht hP⟩, hS.F ht⟩) hS.2.2 dX7_about_138
    · have h := h.1 c_4
      refine lv_ldc2 (v := (-2000000001 : Int64)) hx hb hown (hts _ wX7_about_k73) dX7_about_20 ?_
      exact W.lret (v := (-2000000001 : Int64)) hx hb hr (fun t ht hW => ⟨⟨(-2000000001 : Int64), (), rfl, h, x_ht ht hP⟩, hS.F ht⟩) hS.2.2 dX7_about_23
abbrev rmX7_isOf : Room := { frames := 2, cells := 0, slots := 0, locals := 46 }
theorem wX7_isOf_k73 : Cond.constantLong RX7 73 (-2000000001) ∈ wsX7_isOf := by decide +kernel
theorem wX7_isOf_k107 : Cond.constantLong RX7 107 (4) ∈ wsX7_isOf := by decide +kernel
def PX7_isOf  (r : MmV) (x1 : Int32) (x2 : Int32) (post : Int64 → Prop) : Prop :=
  (PX7_isDue r x1 (fun (r_1 : Int32) => ((r_1 = 0 → post (-2000000001 : Int64)) ∧ (¬ r_1 = 0 → (PX7_isIn (x2.toInt64) (0 : Int64) (4 : Int64) (fun (r_3 : Int32) => ((r_3 = 0 → post (-2000000001 : Int64)) ∧ (¬ r_3 = 0 → (PX7_get r x1 (1 : Int32) (fun (r_5 : Int64) => ((r_5 = (x2.toInt64) → post (1 : Int64)) ∧ (¬ r_5 = (x2.toInt64) → ((r_5 = (4 : Int64) → ((x2 = (1 : Int32) → post (1 : Int64)) ∧ (¬ x2 = (1 : Int32) → post (0 : Int64)))) ∧ (¬ r_5 = (4 : Int64) → post (0 : Int64)))))))))))))))
set_option maxHeartbeats 4000000 in
set_option maxRecDepth 100000 in
theorem qX7_isOf (l : Launch) (dC : Nat → ClassId) (dI : Nat → Nat → Nat) (ad : Nat → Nat) (ci : Nat → ClassId) (A : Nat → Prop) (hAD : xw_D 7 ad A) (r : MmV) (x1 : Int32) (x2 : Int32) (post : Int64 → Prop) (h : PX7_isOf r x1 x2 post) : Met l yX7_isOf wsX7_isOf rmX7_isOf (va_Pc [.ref (ad 0), .int x1, .int x2] (fun U => va_P (dC, dI) vwCl (xw 7 ad (mc ad ci r)) U.heap ∧ va_K (dC, dI) vwCl (xT ci) U)) (va_Ql (fun r9 (u : Unit) => post r9 ) (fun u t => va_P (dC, dI) vwCl (xw 7 ad (mc ad ci r)) t.heap) A) 0 0 A := by
  refine Met.ofW (cc := cX7_isOf) (maxL := 5) (ret := (some .long)) (by decide) rfl ?_
  intro p e s m args below meth c s₁ B hml hv
  obtain ⟨eargs, hP, hK⟩ := hv
  have C0 : xC p s m args meth c cX7_isOf 5 (some .long) RX7 wsX7_isOf (dC, dI) (xT ci) := ⟨B.exec, B.bytes, hml, B.returns, B.notSynchronized, findClass_of_methodNamed B.named, atoms_spec (ws := wsX7_isOf) B.pre, hK⟩
  obtain ⟨hx, hb, -, hr, hlocks, hown, hts, -⟩ := id C0
  have hS : va_S A s.heap s.heap [] := va_S.rf
  have hl := lv_entry ([.ref (ad 0), .int x1, .int x2]) (n := 5) (Nat.le_of_ble_eq_true rfl)
  have ef : entryFrame m args 5 = entryFrame m ([.ref (ad 0), .int x1, .int x2] : List Value).toArray 5 := by rw [eargs]
  rw [ef, lg_entry_eq]
  generalize (lg_sl ([.ref (ad 0), .int x1, .int x2]) ++ List.replicate (5 - (lg_sl ([.ref (ad 0), .int x1, .int x2])).length) Slot.unset).toArray = ls at hl ⊢
  have hl : lv_has ls 5 [(0, .ref (ad 0)), (1, .int x1), (2, .int x2)] := hl
  have hP : va_P (dC, dI) vwCl (xw 7 ad (mc ad ci r)) s.heap := hP
  unfold PX7_isOf at h
  refine lv_aload_n hx hb dX7_isOf_0 rfl (lv_at hl 0 rfl) ?_
  refine lv_iload_n hx hb dX7_isOf_1 rfl (lv_at hl 1 rfl) ?_
  refine va_calli (va_runV (As := [.int x1]) (rest := []) ⟨hx, hb, C0.2.2.1, hown, hts⟩ (qX7_isDue l dC dI ad ci A hAD r x1 _ h) (cwV 1 hts gX7_isOf_X7_isDue rfl rfl rfl (by decide +kernel) ⟨Nat.le_of_ble_eq_true rfl, Nat.le_of_ble_eq_true rfl⟩) ⟨xr_blind, xr_recv (r := (RX7, TX7, 9)) hK hP 0 (by decide) me_M rfl, xr_pre hP hK⟩ rfl rfl hl.1 rfl (lv_room (Nat.le_of_ble_eq_true rfl)) dX7_isOf_2 ⟨Nat.le_of_ble_eq_true rfl, Nat.le_of_ble_eq_true rfl⟩) hS (fun _ _ h => h) (fun _ h => h) (fun r_1 _ t9 H locs ht hvm h hB _ _ hS => ?_)
  refine W.cs (cells' := 0) (slots' := 0) rfl rfl ?_
  have hP := x_th ht hB
  have hP : va_P (dC, dI) vwCl (xw 7 ad (mc ad ci r)) H := hP
  refine lv_if_eq (tgt := 20) hx hb dX7_isOf_5 (by decide) (fun c_2 => ?_) (fun c_2 => ?_)
  · have h := h.1 c_2
    refine lv_ldc2 (v := (-2000000001 : Int64)) hx hb hown (hts _ wX7_isOf_k73) dX7_isOf_20 ?_
    exact W.lret (v := (-2000000001 : Int64)) hx hb hr (fun t ht hW => ⟨⟨(-2000000001 : Int64), (), rfl, h, x_ht ht hP⟩, hS.F ht⟩) hS.2.2 dX7_isOf_23
  · have h := h.2 c_2
    refine lv_iload_n hx hb dX7_isOf_8 rfl (lv_at hl 2 rfl) ?_
    refine lv_i2l hx hb dX7_isOf_9 rfl ?_
    refine lv_lconst (v := (0 : Int64)) hx hb dX7_isOf_10 (by decide) ?_
    refine lv_ldc2 (v := (4 : Int64)) hx hb hown (hts _ wX7_isOf_k107) dX7_isOf_11 ?_
    refine va_calli (va_runS (As := [.long (x2.toInt64), .long (0 : Int64), .long (4 : Int64)]) (rest := []) ⟨hx, hb, C0.2.2.1, hown, hts⟩ (qX7_isIn l dC dI 7 ad (mc ad ci r) (xT ci) A (x2.toInt64) (0 : Int64) (4 : Int64) _ h) (va_cwS 3 hts gX7_isOf_X7_isIn rfl rfl rfl (by decide +kernel) ⟨Nat.le_of_ble_eq_true rfl, Nat.le_of_ble_eq_true rfl⟩) ⟨xr_blind, xr_pre hP hK⟩ rfl rfl hl.1 rfl (lv_room (Nat.le_of_ble_eq_true rfl)) dX7_isOf_14 ⟨Nat.le_of_ble_eq_true rfl, Nat.le_of_ble_eq_true rfl⟩) hS (fun _ _ h => h) (fun _ h => h) (fun r_3 _ t9 H locs ht hvm h hB _ _ hS => ?_)
    refine W.cs (cells' := 0) (slots' := 0) rfl rfl ?_
    have hP := x_th ht hB
    have hP : va_P (dC, dI) vwCl (xw 7 ad (mc ad ci r)) H := hP
    refine lv_if_ne (tgt := 24) hx hb dX7_isOf_17 (by decide) (fun c_4 => ?_) (fun c_4 => ?_)
    · have h := h.2 c_4
      refine lv_aload_n hx hb dX7_isOf_24 rfl (lv_at hl 0 rfl) ?_
      refine lv_iload_n hx hb dX7_isOf_25 rfl (lv_at hl 1 rfl) ?_
      refine lv_iconst (v := (1 : Int32)) hx hb dX7_isOf_26 (by decide) ?_
      refine va_calll (va_runV (As := [.int x1, .int (1 : Int32)]) (rest := []) ⟨hx, hb, C0.2.2.1, hown, hts⟩ (qX7_get l dC dI ad ci A hAD r x1 (1 : Int32) _ h) (cwV 2 hts gX7_isOf_X7_get rfl rfl rfl (by decide +kernel) ⟨Nat.le_of_ble_eq_true rfl, Nat.le_of_ble_eq_true rfl⟩) ⟨xr_blind, xr_recv (r := (RX7, TX7, 9)) hK hP 0 (by decide) me_M rfl, xr_pre hP hK⟩ rfl rfl hl.1 rfl (lv_room (Nat.le_of_ble_eq_true rfl)) dX7_isOf_27 ⟨Nat.le_of_ble_eq_true rfl, Nat.le_of_ble_eq_true rfl⟩) hS (fun _ _ h => h) (fun _ h => h) (fun r_5 _ t9 H locs ht hvm h hB _ _ hS => ?_)
      refine W.cs (cells' := 0) (slots' := 0) rfl rfl ?_
      have hP := x_th ht hB
      have hP : va_P (dC, dI) vwCl (xw 7 ad (mc ad ci r)) H := hP
      refine lv_lstore_n (lv' := [(3, .long r_5), (0, .ref (ad 0)), (1, .int x1), (2, .int x2)]) hx hb dX7_isOf_30 rfl hl (by decide) rfl (fun ls hl => ?_)
      refine lv_lload_n hx hb dX7_isOf_31 rfl (lv_at hl 0 rfl) ?_
      refine lv_iload_n hx hb dX7_isOf_32 rfl (lv_at hl 3 rfl) ?_
      refine lv_i2l hx hb dX7_isOf_33 rfl ?_
      refine xr_if_lcmp_eq (tgt := 51) hx hb dX7_isOf_34 dX7_isOf_35 (by decide) (fun c_6 => ?_) (fun c_6 => ?_)
      · have h := h.1 c_6
        refine lv_lconst (v := (1 : Int64)) hx hb dX7_isOf_51 (by decide) ?_
        refine lv_goto (tgt := 56) hx hb dX7_isOf_52 (by decide) ?_
        exact W.lret (v := (1 : Int64)) hx hb hr (fun t ht hW => ⟨⟨(1 : Int64), (), rfl, h, x_ht ht hP⟩, hS.F ht⟩) hS.2.2 dX7_isOf_56
      · have h := h.2 c_6
        refine lv_lload_n hx hb dX7_isOf_38 rfl (lv_at hl 0 rfl) ?_
        refine lv_ldc2 (v := (4 : Int64)) hx hb hown (hts _ wX7_isOf_k107) dX7_isOf_39 ?_
        refine xr_if_lcmp_ne (tgt := 55) hx hb dX7_isOf_42 dX7_isOf_43 (by decide) (fun c_7 => ?_) (fun c_7 => ?_)
        · have h := h.2 c_7
          refine lv_lconst (v := (0 : Int64)) hx hb dX7_isOf_55 (by decide) ?_
          exact W.lret (v := (0 : Int64)) hx hb hr (fun t ht hW => ⟨⟨(0 : Int64), (), rfl, h, x_ht ht hP⟩, hS.F ht⟩) hS.2.2 dX7_isOf_56
        · have h := h.1 c_7
          refine lv_iload_n hx hb dX7_isOf_46 rfl (lv_at hl 3 rfl) ?_
          refine lv_iconst (v := (1 : Int32)) hx hb dX7_isOf_47 (by decide) ?_
          refine lv_icmp_ne (tgt := 55) hx hb dX7_isOf_48 (by decide) (fun c_8 => ?_) (fun c_8 => ?_)
          · have h := h.2 c_8
            refine lv_lconst (v := (0 : Int64)) hx hb dX7_isOf_55 (by decide) ?_
            exact W.lret (v := (0 : Int64)) hx hb hr (fun t ht hW => ⟨⟨(0 : Int64), (), rfl, h, x_ht ht hP⟩, hS.F ht⟩) hS.2.2 dX7_isOf_56
          · have h := h.1 c_8
            refine lv_lconst (v := (1 : Int64)) hx hb dX7_isOf_51 (by decide) ?_
            refine lv_goto (tgt := 56) hx hb dX7_isOf_52 (by decide) ?_
            exact W.lret (v := (1 : Int64)) hx hb hr (fun t ht hW => ⟨⟨(1 : Int64), (), rfl, h, x_ht ht hP⟩, hS.F ht⟩) hS.2.2 dX7_isOf_56
    · have h := h.1 c_4
      refine lv_ldc2 (v := (-2000000001 : Int64)) hx hb hown (hts _ wX7_isOf_k73) dX7_isOf_20 ?_
      exact W.lret (v := (-2000000001 : Int64)) hx hb hr (fun t ht hW => ⟨⟨(-2000000001 : Int64), (), rfl, h, x_ht ht hP⟩, hS.F ht⟩) hS.2.2 dX7_isOf_23
abbrev rmX7_turnOf : Room := { frames := 0, cells := 0, slots := 0, locals := 0 }
def PX7_turnOf   (x0 : Int64) (x2 : Int32) (post : Int64 → Prop) : Prop :=
  ∀ x3_1 : Int32, x3_1 = ((6 : Int32) * (x2 + (1 : Int32))) → post ((x0 >>> (x3_1.toInt64 &&& 63)) <<< (x3_1.toInt64 &&& 63))
set_option maxHeartbeats 4000000 in
set_option maxRecDepth 100000 in
theorem qX7_turnOf (l : Launch) (dC : Nat → ClassId) (dI : Nat → Nat → Nat) (nn : Nat) (ad : Nat → Nat) (ff : Nat → va_E) (tys : List (ClassId × FieldType)) (A : Nat → Prop)  (x0 : Int64) (x2 : Int32) (post : Int64 → Prop) (h : PX7_turnOf x0 x2 post) : Met l yX7_turnOf wsX7_turnOf rmX7_turnOf (va_Pc [.long x0, .int x2] (fun U => va_P (dC, dI) vwCl (xw nn ad ff) U.heap ∧ va_K (dC, dI) vwCl tys U)) (va_Ql (fun r9 (u : Unit) => post r9 ) (fun u t => va_P (dC, dI) vwCl (xw nn ad ff) t.heap) A) 0 0 A := by
  refine Met.ofW (cc := cX7_turnOf) (maxL := 4) (ret := (some .long)) (by decide) rfl ?_
  intro p e s m args below meth c s₁ B hml hv
  obtain ⟨eargs, hP, hK⟩ := hv
  have C0 : xC p s m args meth c cX7_turnOf 4 (some .long) RX7 wsX7_turnOf (dC, dI) tys := ⟨B.exec, B.bytes, hml, B.returns, B.notSynchronized, findClass_of_methodNamed B.named, atoms_spec (ws := wsX7_turnOf) B.pre, hK⟩
  obtain ⟨hx, hb, -, hr, hlocks, hown, hts, -⟩ := id C0
  have hS : va_S A s.heap s.heap [] := va_S.rf
  have hl := lv_entry ([.long x0, .int x2]) (n := 4) (Nat.le_of_ble_eq_true rfl)
  have ef : entryFrame m args 4 = entryFrame m ([.long x0, .int x2] : List Value).toArray 4 := by rw [eargs]
  rw [ef, lg_entry_eq]
  generalize (lg_sl ([.long x0, .int x2]) ++ List.replicate (4 - (lg_sl ([.long x0, .int x2])).length) Slot.unset).toArray = ls at hl ⊢
  have hl : lv_has ls 4 [(0, .long x0), (2, .int x2)] := hl
  have hP : va_P (dC, dI) vwCl (xw nn ad ff) s.heap := hP
  unfold PX7_turnOf at h
  refine lv_bipush (v := (6 : Int32)) hx hb dX7_turnOf_0 (by decide) ?_
  refine lv_iload_n hx hb dX7_turnOf_2 rfl (lv_at hl 1 rfl) ?_
  refine lv_iconst (v := (1 : Int32)) hx hb dX7_turnOf_3 (by decide) ?_
  refine lv_iadd hx hb dX7_turnOf_4 ?_
  refine lv_imul hx hb dX7_turnOf_5 ?_
  refine lv_topi (fun x3_1 ex3_1 => ?_)
  have h := h x3_1 ex3_1
  refine lv_istore_n (lv' := [(3, .int x3_1), (0, .long x0), (2, .int x2)]) hx hb dX7_turnOf_6 rfl hl (by decide) rfl (fun ls hl => ?_)
  refine lv_lload_n hx hb dX7_turnOf_7 rfl (lv_at hl 1 rfl) ?_
  refine lv_iload_n hx hb dX7_turnOf_8 rfl (lv_at hl 0 rfl) ?_
  refine lv_lshr hx hb dX7_turnOf_9 rfl ?_
  refine lv_iload_n hx hb dX7_turnOf_10 rfl (lv_at hl 0 rfl) ?_
  refine lv_lshl hx hb dX7_turnOf_11 rfl ?_
  exact W.lret (v := ((x0 >>> (x3_1.toInt64 &&& 63)) <<< (x3_1.toInt64 &&& 63))) hx hb hr (fun t ht hW => ⟨⟨((x0 >>> (x3_1.toInt64 &&& 63)) <<< (x3_1.toInt64 &&& 63)), (), rfl, h, x_ht ht hP⟩, hS.F ht⟩) hS.2.2 dX7_turnOf_12
abbrev rmX7_wheelOf : Room := { frames := 1, cells := 0, slots := 0, locals := 23 }
theorem wX7_wheelOf_c7 : ∀ w ∈ u_ws RX7 TX7 9, w ∈ wsX7_wheelOf := by decide +kernel
theorem wX7_wheelOf_f7 : Cond.fieldLink RX7 7 "DueWheelsModel" "s" "[J" ∈ wsX7_wheelOf := by decide +kernel
def LX7_wheelOf_2  (r : MmV) (x1 : Int64)  (post : Int32 → Prop) : Nat → Int32 → Prop
  | 0, _ => False
  | n + 1, x3 => (((5 : Int32) ≤ x3 → post x3) ∧ (¬ (5 : Int32) ≤ x3 → (PX7_turnOf x1 x3 (fun (r_2 : Int64) => ((r_2 ≤ (m_s r 3700) → post x3) ∧ (¬ r_2 ≤ (m_s r 3700) → ∀ x3_4 : Int32, x3_4 = x3 + 1 → LX7_wheelOf_2  r x1 post n x3_4))))))
set_option maxHeartbeats 4000000 in
set_option maxRecDepth 100000 in
theorem kX7_wheelOf_2 {p : Program} {e : Env} {s : State} {m : MethodId} {args : Array Value} {below : List Frame} {meth : Method} {c : Code} (l : Launch) (dC : Nat → ClassId) (dI : Nat → Nat → Nat) (ad : Nat → Nat) (ci : Nat → ClassId) (A : Nat → Prop) (hAD : xw_D 7 ad A) (r : MmV) (x1 : Int64)  (post : Int32 → Prop) (C0 : xC p s m args meth c cX7_wheelOf 4 (some .int) RX7 wsX7_wheelOf (dC, dI) (xT ci)) : ∀ (n : Nat) (x3 : Int32) (H : Heap) (locs : List Loc) (ls : Array Slot), LX7_wheelOf_2  r x1 post n x3 → va_P (dC, dI) vwCl (xw 7 ad (mc ad ci r)) H → va_S A s.heap H locs → lv_has ls 4 [(0, .ref (ad 0)), (1, .long x1), (3, .int x3)] → W p l e rmX7_wheelOf s m args below meth c H locs 0 0 (MQ below (va_Qi (fun r9 (u : Unit) => post r9 ) (fun u t => va_P (dC, dI) vwCl (xw 7 ad (mc ad ci r)) t.heap) A) args s 0 0 A) (F0 m 2 ls []) := by
  obtain ⟨hx, hb, -, hr, hlocks, hown, hts, hK⟩ := id C0
  intro n
  induction n with
  | zero =>
    intro x3 H locs ls h
    exact False.elim h
  | succ n ih =>
    intro x3 H locs ls h hP hS hl
    rw [LX7_wheelOf_2] at h
    refine lv_iload_n hx hb dX7_wheelOf_2 rfl (lv_at hl 2 rfl) ?_
    refine lv_iconst (v := (5 : Int32)) hx hb dX7_wheelOf_3 (by decide) ?_
    refine lv_icmp_ge (tgt := 30) hx hb dX7_wheelOf_4 (by decide) (fun c_1 => ?_) (fun c_1 => ?_)
    · have h := h.1 c_1
      refine lv_iload_n hx hb dX7_wheelOf_30 rfl (lv_at hl 2 rfl) ?_
      exact W.iret (v := x3) hx hb hr (fun t ht hW => ⟨⟨x3, (), rfl, h, x_ht ht hP⟩, hS.F ht⟩) hS.2.2 dX7_wheelOf_31
    · have h := h.2 c_1
      refine lv_aload_n hx hb dX7_wheelOf_7 rfl (lv_at hl 0 rfl) ?_
      refine xr_get (D := (dC, dI)) (C := RX7) (T := TX7) (N := 9) (v := .ref (ad 1)) hx hb hts wX7_wheelOf_c7 hown hK hP 0 (by decide) me_M rfl 0 (by decide) wX7_wheelOf_f7 rfl rfl dX7_wheelOf_8 ?_
      refine lv_sipush (v := (3700 : Int32)) hx hb dX7_wheelOf_11 (by decide) ?_
      refine xr_lald (k := 3700) hx hb hK hP 1 1 (by decide) me_s rfl rfl (x_in _ _ (by decide)) dX7_wheelOf_14 ?_
      refine lv_lload_n hx hb dX7_wheelOf_15 rfl (lv_at hl 1 rfl) ?_
      refine lv_iload_n hx hb dX7_wheelOf_16 rfl (lv_at hl 2 rfl) ?_
      refine va_calll (va_runS (As := [.long x1, .int x3]) (rest := [.long (m_s r 3700)]) ⟨hx, hb, C0.2.2.1, hown, hts⟩ (qX7_turnOf l dC dI 7 ad (mc ad ci r) (xT ci) A x1 x3 _ h) (va_cwS 2 hts gX7_wheelOf_X7_turnOf rfl rfl rfl (by decide +kernel) ⟨Nat.le_of_ble_eq_true rfl, Nat.le_of_ble_eq_true rfl⟩) ⟨xr_blind, xr_pre hP hK⟩ rfl rfl hl.1 rfl (lv_room (Nat.le_of_ble_eq_true rfl)) dX7_wheelOf_17 ⟨Nat.le_of_ble_eq_true rfl, Nat.le_of_ble_eq_true rfl⟩) hS (fun _ _ h => h) (fun _ h => h) (fun r_2 _ t9 H locs ht hvm h hB _ _ hS => ?_)
      refine W.cs (cells' := 0) (slots' := 0) rfl rfl ?_
      have hP := x_th ht hB
      have hP : va_P (dC, dI) vwCl (xw 7 ad (mc ad ci r)) H := hP
      refine xr_if_lcmp_ge (tgt := 30) hx hb dX7_wheelOf_20 dX7_wheelOf_21 (by decide) (fun c_3 => ?_) (fun c_3 => ?_)
      · have h := h.1 c_3
        refine lv_iload_n hx hb dX7_wheelOf_30 rfl (lv_at hl 2 rfl) ?_
        exact W.iret (v := x3) hx hb hr (fun t ht hW => ⟨⟨x3, (), rfl, h, x_ht ht hP⟩, hS.F ht⟩) hS.2.2 dX7_wheelOf_31
      · have h := h.2 c_3
        obtain ⟨x3_4, ex3_4⟩ : ∃ z : Int32, z = x3 + 1 := ⟨_, rfl⟩
        have h := h x3_4 ex3_4
        refine lv_iinc (v := x3_4) (lv' := [(3, .int x3_4), (0, .ref (ad 0)), (1, .long x1)]) hx hb dX7_wheelOf_24 hl (k := 2) rfl (by rw [ex3_4]; rfl) (by decide) rfl (fun ls hl => ?_)
        refine lv_goto (tgt := 2) hx hb dX7_wheelOf_27 (by decide) ?_
        exact ih x3_4 _ _ _ h hP hS (lv_sub hl [1, 2, 0] rfl)
def PX7_wheelOf  (r : MmV) (x1 : Int64) (post : Int32 → Prop) : Prop :=
  (∃ n_5 : Nat, LX7_wheelOf_2  r x1  post n_5 (0 : Int32))
set_option maxHeartbeats 4000000 in
set_option maxRecDepth 100000 in
theorem qX7_wheelOf (l : Launch) (dC : Nat → ClassId) (dI : Nat → Nat → Nat) (ad : Nat → Nat) (ci : Nat → ClassId) (A : Nat → Prop) (hAD : xw_D 7 ad A) (r : MmV) (x1 : Int64) (post : Int32 → Prop) (h : PX7_wheelOf r x1 post) : Met l yX7_wheelOf wsX7_wheelOf rmX7_wheelOf (va_Pc [.ref (ad 0), .long x1] (fun U => va_P (dC, dI) vwCl (xw 7 ad (mc ad ci r)) U.heap ∧ va_K (dC, dI) vwCl (xT ci) U)) (va_Qi (fun r9 (u : Unit) => post r9 ) (fun u t => va_P (dC, dI) vwCl (xw 7 ad (mc ad ci r)) t.heap) A) 0 0 A := by
  refine Met.ofW (cc := cX7_wheelOf) (maxL := 4) (ret := (some .int)) (by decide) rfl ?_
  intro p e s m args below meth c s₁ B hml hv
  obtain ⟨eargs, hP, hK⟩ := hv
  have C0 : xC p s m args meth c cX7_wheelOf 4 (some .int) RX7 wsX7_wheelOf (dC, dI) (xT ci) := ⟨B.exec, B.bytes, hml, B.returns, B.notSynchronized, findClass_of_methodNamed B.named, atoms_spec (ws := wsX7_wheelOf) B.pre, hK⟩
  obtain ⟨hx, hb, -, hr, hlocks, hown, hts, -⟩ := id C0
  have hS : va_S A s.heap s.heap [] := va_S.rf
  have hl := lv_entry ([.ref (ad 0), .long x1]) (n := 4) (Nat.le_of_ble_eq_true rfl)
  have ef : entryFrame m args 4 = entryFrame m ([.ref (ad 0), .long x1] : List Value).toArray 4 := by rw [eargs]
  rw [ef, lg_entry_eq]
  generalize (lg_sl ([.ref (ad 0), .long x1]) ++ List.replicate (4 - (lg_sl ([.ref (ad 0), .long x1])).length) Slot.unset).toArray = ls at hl ⊢
  have hl : lv_has ls 4 [(0, .ref (ad 0)), (1, .long x1)] := hl
  have hP : va_P (dC, dI) vwCl (xw 7 ad (mc ad ci r)) s.heap := hP
  unfold PX7_wheelOf at h
  refine lv_iconst (v := (0 : Int32)) hx hb dX7_wheelOf_0 (by decide) ?_
  refine lv_istore_n (lv' := [(3, .int (0 : Int32)), (0, .ref (ad 0)), (1, .long x1)]) hx hb dX7_wheelOf_1 rfl hl (by decide) rfl (fun ls hl => ?_)
  obtain ⟨n_5, h⟩ := h
  exact kX7_wheelOf_2 l dC dI ad ci A hAD r   x1  post C0  n_5 (0 : Int32) _ _ _ h hP hS (lv_sub hl [1, 2, 0] rfl)
abbrev rmX7_slotOf : Room := { frames := 0, cells := 0, slots := 0, locals := 0 }
theorem wX7_slotOf_k118 : Cond.constantLong RX7 118 (63) ∈ wsX7_slotOf := by decide +kernel
def PX7_slotOf   (x0 : Int64) (x2 : Int32) (post : Int32 → Prop) : Prop :=
  ((x2 = (5 : Int32) → post (0 : Int32)) ∧ (¬ x2 = (5 : Int32) → post (((x0 >>> (((6 : Int32) * x2).toInt64 &&& 63)) &&& (63 : Int64)).toInt32)))
set_option maxHeartbeats 4000000 in
set_option maxRecDepth 100000 in
theorem qX7_slotOf (l : Launch) (dC : Nat → ClassId) (dI : Nat → Nat → Nat) (nn : Nat) (ad : Nat → Nat) (ff : Nat → va_E) (tys : List (ClassId × FieldType)) (A : Nat → Prop)  (x0 : Int64) (x2 : Int32) (post : Int32 → Prop) (h : PX7_slotOf x0 x2 post) : Met l yX7_slotOf wsX7_slotOf rmX7_slotOf (va_Pc [.long x0, .int x2] (fun U => va_P (dC, dI) vwCl (xw nn ad ff) U.heap ∧ va_K (dC, dI) vwCl tys U)) (va_Qi (fun r9 (u : Unit) => post r9 ) (fun u t => va_P (dC, dI) vwCl (xw nn ad ff) t.heap) A) 0 0 A := by
  refine Met.ofW (cc := cX7_slotOf) (maxL := 3) (ret := (some .int)) (by decide) rfl ?_
  intro p e s m args below meth c s₁ B hml hv
  obtain ⟨eargs, hP, hK⟩ := hv
  have C0 : xC p s m args meth c cX7_slotOf 3 (some .int) RX7 wsX7_slotOf (dC, dI) tys := ⟨B.exec, B.bytes, hml, B.returns, B.notSynchronized, findClass_of_methodNamed B.named, atoms_spec (ws := wsX7_slotOf) B.pre, hK⟩
  obtain ⟨hx, hb, -, hr, hlocks, hown, hts, -⟩ := id C0
  have hS : va_S A s.heap s.heap [] := va_S.rf
  have hl := lv_entry ([.long x0, .int x2]) (n := 3) (Nat.le_of_ble_eq_true rfl)
  have ef : entryFrame m args 3 = entryFrame m ([.long x0, .int x2] : List Value).toArray 3 := by rw [eargs]
  rw [ef, lg_entry_eq]
  generalize (lg_sl ([.long x0, .int x2]) ++ List.replicate (3 - (lg_sl ([.long x0, .int x2])).length) Slot.unset).toArray = ls at hl ⊢
  have hl : lv_has ls 3 [(0, .long x0), (2, .int x2)] := hl
  have hP : va_P (dC, dI) vwCl (xw nn ad ff) s.heap := hP
  unfold PX7_slotOf at h
  refine lv_iload_n hx hb dX7_slotOf_0 rfl (lv_at hl 1 rfl) ?_
  refine lv_iconst (v := (5 : Int32)) hx hb dX7_slotOf_1 (by decide) ?_
  refine lv_icmp_ne (tgt := 9) hx hb dX7_slotOf_2 (by decide) (fun c_1 => ?_) (fun c_1 => ?_)
  · have h := h.2 c_1
    refine lv_lload_n hx hb dX7_slotOf_9 rfl (lv_at hl 0 rfl) ?_
    refine lv_bipush (v := (6 : Int32)) hx hb dX7_slotOf_10 (by decide) ?_
    refine lv_iload_n hx hb dX7_slotOf_12 rfl (lv_at hl 1 rfl) ?_
    refine lv_imul hx hb dX7_slotOf_13 ?_
    refine lv_lshr hx hb dX7_slotOf_14 rfl ?_
    refine lv_ldc2 (v := (63 : Int64)) hx hb hown (hts _ wX7_slotOf_k118) dX7_slotOf_15 ?_
    refine lv_land hx hb dX7_slotOf_18 ?_
    refine lv_l2i hx hb dX7_slotOf_19 rfl ?_
    exact W.iret (v := (((x0 >>> (((6 : Int32) * x2).toInt64 &&& 63)) &&& (63 : Int64)).toInt32)) hx hb hr (fun t ht hW => ⟨⟨(((x0 >>> (((6 : Int32) * x2).toInt64 &&& 63)) &&& (63 : Int64)).toInt32), (), rfl, h, x_ht ht hP⟩, hS.F ht⟩) hS.2.2 dX7_slotOf_20
  · have h := h.1 c_1
    refine lv_iconst (v := (0 : Int32)) hx hb dX7_slotOf_5 (by decide) ?_
    refine lv_goto (tgt := 20) hx hb dX7_slotOf_6 (by decide) ?_
    exact W.iret (v := (0 : Int32)) hx hb hr (fun t ht hW => ⟨⟨(0 : Int32), (), rfl, h, x_ht ht hP⟩, hS.F ht⟩) hS.2.2 dX7_slotOf_20
abbrev rmX7_movesOf : Room := { frames := 1, cells := 0, slots := 0, locals := 23 }
def LX7_movesOf_6   (x0 : Int64) (x2 : Int64) (x4 : Int64)  (post : Int32 → Prop) : Nat → Int32 → Int32 → Prop
  | 0, _, _ => False
  | n + 1, x6, x7 => (((5 : Int32) ≤ x7 → post x6) ∧ (¬ (5 : Int32) ≤ x7 → (PX7_turnOf x0 x7 (fun (r_2 : Int64) => ((x7 = 0 → ((r_2 ≤ x2 → ∀ x6_6 : Int32, x6_6 = (x6 + (0 : Int32)) → ∀ x7_7 : Int32, x7_7 = x7 + 1 → LX7_movesOf_6  x0 x2 x4 post n x6_6 x7_7) ∧ (¬ r_2 ≤ x2 → ((x4 < r_2 → ∀ x6_9 : Int32, x6_9 = (x6 + (0 : Int32)) → ∀ x7_10 : Int32, x7_10 = x7 + 1 → LX7_movesOf_6  x0 x2 x4 post n x6_9 x7_10) ∧ (¬ x4 < r_2 → ∀ x6_11 : Int32, x6_11 = (x6 + (1 : Int32)) → ∀ x7_12 : Int32, x7_12 = x7 + 1 → LX7_movesOf_6  x0 x2 x4 post n x6_11 x7_12))))) ∧ (¬ x7 = 0 → (PX7_turnOf x0 (x7 - (1 : Int32)) (fun (r_13 : Int64) => ((r_13 = r_2 → ∀ x6_16 : Int32, x6_16 = (x6 + (0 : Int32)) → ∀ x7_17 : Int32, x7_17 = x7 + 1 → LX7_movesOf_6  x0 x2 x4 post n x6_16 x7_17) ∧ (¬ r_13 = r_2 → ((r_2 ≤ x2 → ∀ x6_20 : Int32, x6_20 = (x6 + (0 : Int32)) → ∀ x7_21 : Int32, x7_21 = x7 + 1 → LX7_movesOf_6  x0 x2 x4 post n x6_20 x7_21) ∧ (¬ r_2 ≤ x2 → ((x4 < r_2 → ∀ x6_23 : Int32, x6_23 = (x6 + (0 : Int32)) → ∀ x7_24 : Int32, x7_24 = x7 + 1 → LX7_movesOf_6  x0 x2 x4 post n x6_23 x7_24) ∧ (¬ x4 < r_2 → ∀ x6_25 : Int32, x6_25 = (x6 + (1 : Int32)) → ∀ x7_26 : Int32, x7_26 = x7 + 1 → LX7_movesOf_6  x0 x2 x4 post n x6_25 x7_26))))))))))))))
set_option maxHeartbeats 4000000 in
set_option maxRecDepth 100000 in
theorem kX7_movesOf_6 {p : Program} {e : Env} {s : State} {m : MethodId} {args : Array Value} {below : List Frame} {meth : Method} {c : Code} (l : Launch) (dC : Nat → ClassId) (dI : Nat → Nat → Nat) (nn : Nat) (ad : Nat → Nat) (ff : Nat → va_E) (tys : List (ClassId × FieldType)) (A : Nat → Prop)  (x0 : Int64) (x2 : Int64) (x4 : Int64)  (post : Int32 → Prop) (C0 : xC p s m args meth c cX7_movesOf 11 (some .int) RX7 wsX7_movesOf (dC, dI) tys) : ∀ (n : Nat) (x6 : Int32) (x7 : Int32) (H : Heap) (locs : List Loc) (ls : Array Slot), LX7_movesOf_6  x0 x2 x4 post n x6 x7 → va_P (dC, dI) vwCl (xw nn ad ff) H → va_S A s.heap H locs → lv_has ls 11 [(0, .long x0), (2, .long x2), (4, .long x4), (6, .int x6), (7, .int x7)] → W p l e rmX7_movesOf s m args below meth c H locs 0 0 (MQ below (va_Qi (fun r9 (u : Unit) => post r9 ) (fun u t => va_P (dC, dI) vwCl (xw nn ad ff) t.heap) A) args s 0 0 A) (F0 m 6 ls []) := by
  obtain ⟨hx, hb, -, hr, hlocks, hown, hts, hK⟩ := id C0
  intro n
  induction n with
  | zero =>
    intro x6 x7 H locs ls h
    exact False.elim h
  | succ n ih =>
    intro x6 x7 H locs ls h hP hS hl
    rw [LX7_movesOf_6] at h
    refine lv_iload hx hb dX7_movesOf_6 (lv_at hl 4 rfl) ?_
    refine lv_iconst (v := (5 : Int32)) hx hb dX7_movesOf_8 (by decide) ?_
    refine lv_icmp_ge (tgt := 82) hx hb dX7_movesOf_9 (by decide) (fun c_1 => ?_) (fun c_1 => ?_)
    · have h := h.1 c_1
      refine lv_iload hx hb dX7_movesOf_82 (lv_at hl 3 rfl) ?_
      exact W.iret (v := x6) hx hb hr (fun t ht hW => ⟨⟨x6, (), rfl, h, x_ht ht hP⟩, hS.F ht⟩) hS.2.2 dX7_movesOf_84
    · have h := h.2 c_1
      refine lv_lload_n hx hb dX7_movesOf_12 rfl (lv_at hl 0 rfl) ?_
      refine lv_iload hx hb dX7_movesOf_13 (lv_at hl 4 rfl) ?_
      refine va_calll (va_runS (As := [.long x0, .int x7]) (rest := []) ⟨hx, hb, C0.2.2.1, hown, hts⟩ (qX7_turnOf l dC dI nn ad ff tys A x0 x7 _ h) (va_cwS 2 hts gX7_movesOf_X7_turnOf rfl rfl rfl (by decide +kernel) ⟨Nat.le_of_ble_eq_true rfl, Nat.le_of_ble_eq_true rfl⟩) ⟨xr_blind, xr_pre hP hK⟩ rfl rfl hl.1 rfl (lv_room (Nat.le_of_ble_eq_true rfl)) dX7_movesOf_15 ⟨Nat.le_of_ble_eq_true rfl, Nat.le_of_ble_eq_true rfl⟩) hS (fun _ _ h => h) (fun _ h => h) (fun r_2 _ t9 H locs ht hvm h hB _ _ hS => ?_)
      refine W.cs (cells' := 0) (slots' := 0) rfl rfl ?_
      have hP := x_th ht hB
      have hP : va_P (dC, dI) vwCl (xw nn ad ff) H := hP
      refine lv_lstore (lv' := [(8, .long r_2), (0, .long x0), (2, .long x2), (4, .long x4), (6, .int x6), (7, .int x7)]) hx hb dX7_movesOf_18 hl (by decide) rfl (fun ls hl => ?_)
      refine lv_iload hx hb dX7_movesOf_20 (lv_at hl 5 rfl) ?_
      refine lv_if_eq (tgt := 39) hx hb dX7_movesOf_22 (by decide) (fun c_3 => ?_) (fun c_3 => ?_)
      · have h := h.1 c_3
        refine lv_iconst (v := (1 : Int32)) hx hb dX7_movesOf_39 (by decide) ?_
        refine lv_goto (tgt := 44) hx hb dX7_movesOf_40 (by decide) ?_
        refine lv_istore (lv' := [(10, .int (1 : Int32)), (8, .long r_2), (0, .long x0), (2, .long x2), (4, .long x4), (6, .int x6), (7, .int x7)]) hx hb dX7_movesOf_44 hl (by decide) rfl (fun ls hl => ?_)
        refine lv_iload hx hb dX7_movesOf_46 (lv_at hl 5 rfl) ?_
        refine lv_iload hx hb dX7_movesOf_48 (lv_at hl 0 rfl) ?_
        refine lv_if_eq (tgt := 72) hx hb dX7_movesOf_50 (by decide) (fun c_4 => ?_) (fun c_4 => ?_)
        · exact absurd c_4 (by decide)
        · refine lv_lload hx hb dX7_movesOf_53 (lv_at hl 1 rfl) ?_
          refine lv_lload_n hx hb dX7_movesOf_55 rfl (lv_at hl 3 rfl) ?_
          refine xr_if_lcmp_le (tgt := 72) hx hb dX7_movesOf_56 dX7_movesOf_57 (by decide) (fun c_5 => ?_) (fun c_5 => ?_)
          · have h := h.1 c_5
            refine lv_iconst (v := (0 : Int32)) hx hb dX7_movesOf_72 (by decide) ?_
            refine lv_iadd hx hb dX7_movesOf_73 ?_
            refine lv_topi (fun x6_6 ex6_6 => ?_)
            have h := h x6_6 ex6_6
            refine lv_istore (lv' := [(6, .int x6_6), (10, .int (1 : Int32)), (8, .long r_2), (0, .long x0), (2, .long x2), (4, .long x4), (7, .int x7)]) hx hb dX7_movesOf_74 hl (by decide) rfl (fun ls hl => ?_)
            obtain ⟨x7_7, ex7_7⟩ : ∃ z : Int32, z = x7 + 1 := ⟨_, rfl⟩
            have h := h x7_7 ex7_7
            refine lv_iinc (v := x7_7) (lv' := [(7, .int x7_7), (6, .int x6_6), (10, .int (1 : Int32)), (8, .long r_2), (0, .long x0), (2, .long x2), (4, .long x4)]) hx hb dX7_movesOf_76 hl (k := 6) rfl (by rw [ex7_7]; rfl) (by decide) rfl (fun ls hl => ?_)
            refine lv_goto (tgt := 6) hx hb dX7_movesOf_79 (by decide) ?_
            exact ih x6_6 x7_7 _ _ _ h hP hS (lv_sub hl [4, 5, 6, 1, 0] rfl)
          · have h := h.2 c_5
            refine lv_lload hx hb dX7_movesOf_60 (lv_at hl 1 rfl) ?_
            refine lv_lload hx hb dX7_movesOf_62 (lv_at hl 4 rfl) ?_
            refine xr_if_lcmp_gt (tgt := 72) hx hb dX7_movesOf_64 dX7_movesOf_65 (by decide) (fun c_8 => ?_) (fun c_8 => ?_)
            · have h := h.1 c_8
              refine lv_iconst (v := (0 : Int32)) hx hb dX7_movesOf_72 (by decide) ?_
              refine lv_iadd hx hb dX7_movesOf_73 ?_
              refine lv_topi (fun x6_9 ex6_9 => ?_)
              have h := h x6_9 ex6_9
              refine lv_istore (lv' := [(6, .int x6_9), (10, .int (1 : Int32)), (8, .long r_2), (0, .long x0), (2, .long x2), (4, .long x4), (7, .int x7)]) hx hb dX7_movesOf_74 hl (by decide) rfl (fun ls hl => ?_)
              obtain ⟨x7_10, ex7_10⟩ : ∃ z : Int32, z = x7 + 1 := ⟨_, rfl⟩
              have h := h x7_10 ex7_10
              refine lv_iinc (v := x7_10) (lv' := [(7, .int x7_10), (6, .int x6_9), (10, .int (1 : Int32)), (8, .long r_2), (0, .long x0), (2, .long x2), (4, .long x4)]) hx hb dX7_movesOf_76 hl (k := 6) rfl (by rw [ex7_10]; rfl) (by decide) rfl (fun ls hl => ?_)
              refine lv_goto (tgt := 6) hx hb dX7_movesOf_79 (by decide) ?_
              exact ih x6_9 x7_10 _ _ _ h hP hS (lv_sub hl [4, 5, 6, 1, 0] rfl)
            · have h := h.2 c_8
              refine lv_iconst (v := (1 : Int32)) hx hb dX7_movesOf_68 (by decide) ?_
              refine lv_goto (tgt := 73) hx hb dX7_movesOf_69 (by decide) ?_
              refine lv_iadd hx hb dX7_movesOf_73 ?_
              refine lv_topi (fun x6_11 ex6_11 => ?_)
              have h := h x6_11 ex6_11
              refine lv_istore (lv' := [(6, .int x6_11), (10, .int (1 : Int32)), (8, .long r_2), (0, .long x0), (2, .long x2), (4, .long x4), (7, .int x7)]) hx hb dX7_movesOf_74 hl (by decide) rfl (fun ls hl => ?_)
              obtain ⟨x7_12, ex7_12⟩ : ∃ z : Int32, z = x7 + 1 := ⟨_, rfl⟩
              have h := h x7_12 ex7_12
              refine lv_iinc (v := x7_12) (lv' := [(7, .int x7_12), (6, .int x6_11), (10, .int (1 : Int32)), (8, .long r_2), (0, .long x0), (2, .long x2), (4, .long x4)]) hx hb dX7_movesOf_76 hl (k := 6) rfl (by rw [ex7_12]; rfl) (by decide) rfl (fun ls hl => ?_)
              refine lv_goto (tgt := 6) hx hb dX7_movesOf_79 (by decide) ?_
              exact ih x6_11 x7_12 _ _ _ h hP hS (lv_sub hl [4, 5, 6, 1, 0] rfl)
      · have h := h.2 c_3
        refine lv_lload_n hx hb dX7_movesOf_25 rfl (lv_at hl 1 rfl) ?_
        refine lv_iload hx hb dX7_movesOf_26 (lv_at hl 5 rfl) ?_
        refine lv_iconst (v := (1 : Int32)) hx hb dX7_movesOf_28 (by decide) ?_
        refine lv_isub hx hb dX7_movesOf_29 ?_
        refine va_calll (va_runS (As := [.long x0, .int (x7 - (1 : Int32))]) (rest := []) ⟨hx, hb, C0.2.2.1, hown, hts⟩ (qX7_turnOf l dC dI nn ad ff tys A x0 (x7 - (1 : Int32)) _ h) (va_cwS 2 hts gX7_movesOf_X7_turnOf rfl rfl rfl (by decide +kernel) ⟨Nat.le_of_ble_eq_true rfl, Nat.le_of_ble_eq_true rfl⟩) ⟨xr_blind, xr_pre hP hK⟩ rfl rfl hl.1 rfl (lv_room (Nat.le_of_ble_eq_true rfl)) dX7_movesOf_30 ⟨Nat.le_of_ble_eq_true rfl, Nat.le_of_ble_eq_true rfl⟩) hS (fun _ _ h => h) (fun _ h => h) (fun r_13 _ t9 H locs ht hvm h hB _ _ hS => ?_)
        refine W.cs (cells' := 0) (slots' := 0) rfl rfl ?_
        have hP := x_th ht hB
        have hP : va_P (dC, dI) vwCl (xw nn ad ff) H := hP
        refine lv_lload hx hb dX7_movesOf_33 (lv_at hl 0 rfl) ?_
        refine xr_if_lcmp_eq (tgt := 43) hx hb dX7_movesOf_35 dX7_movesOf_36 (by decide) (fun c_14 => ?_) (fun c_14 => ?_)
        · have h := h.1 c_14
          refine lv_iconst (v := (0 : Int32)) hx hb dX7_movesOf_43 (by decide) ?_
          refine lv_istore (lv' := [(10, .int (0 : Int32)), (8, .long r_2), (0, .long x0), (2, .long x2), (4, .long x4), (6, .int x6), (7, .int x7)]) hx hb dX7_movesOf_44 hl (by decide) rfl (fun ls hl => ?_)
          refine lv_iload hx hb dX7_movesOf_46 (lv_at hl 5 rfl) ?_
          refine lv_iload hx hb dX7_movesOf_48 (lv_at hl 0 rfl) ?_
          refine lv_if_eq (tgt := 72) hx hb dX7_movesOf_50 (by decide) (fun c_15 => ?_) (fun c_15 => ?_)
          · refine lv_iconst (v := (0 : Int32)) hx hb dX7_movesOf_72 (by decide) ?_
            refine lv_iadd hx hb dX7_movesOf_73 ?_
            refine lv_topi (fun x6_16 ex6_16 => ?_)
            have h := h x6_16 ex6_16
            refine lv_istore (lv' := [(6, .int x6_16), (10, .int (0 : Int32)), (8, .long r_2), (0, .long x0), (2, .long x2), (4, .long x4), (7, .int x7)]) hx hb dX7_movesOf_74 hl (by decide) rfl (fun ls hl => ?_)
            obtain ⟨x7_17, ex7_17⟩ : ∃ z : Int32, z = x7 + 1 := ⟨_, rfl⟩
            have h := h x7_17 ex7_17
            refine lv_iinc (v := x7_17) (lv' := [(7, .int x7_17), (6, .int x6_16), (10, .int (0 : Int32)), (8, .long r_2), (0, .long x0), (2, .long x2), (4, .long x4)]) hx hb dX7_movesOf_76 hl (k := 6) rfl (by rw [ex7_17]; rfl) (by decide) rfl (fun ls hl => ?_)
            refine lv_goto (tgt := 6) hx hb dX7_movesOf_79 (by decide) ?_
            exact ih x6_16 x7_17 _ _ _ h hP hS (lv_sub hl [4, 5, 6, 1, 0] rfl)
          · exact absurd c_15 (by decide)
        · have h := h.2 c_14
          refine lv_iconst (v := (1 : Int32)) hx hb dX7_movesOf_39 (by decide) ?_
          refine lv_goto (tgt := 44) hx hb dX7_movesOf_40 (by decide) ?_
          refine lv_istore (lv' := [(10, .int (1 : Int32)), (8, .long r_2), (0, .long x0), (2, .long x2), (4, .long x4), (6, .int x6), (7, .int x7)]) hx hb dX7_movesOf_44 hl (by decide) rfl (fun ls hl => ?_)
          refine lv_iload hx hb dX7_movesOf_46 (lv_at hl 5 rfl) ?_
          refine lv_iload hx hb dX7_movesOf_48 (lv_at hl 0 rfl) ?_
          refine lv_if_eq (tgt := 72) hx hb dX7_movesOf_50 (by decide) (fun c_18 => ?_) (fun c_18 => ?_)
          · exact absurd c_18 (by decide)
          · refine lv_lload hx hb dX7_movesOf_53 (lv_at hl 1 rfl) ?_
            refine lv_lload_n hx hb dX7_movesOf_55 rfl (lv_at hl 3 rfl) ?_
            refine xr_if_lcmp_le (tgt := 72) hx hb dX7_movesOf_56 dX7_movesOf_57 (by decide) (fun c_19 => ?_) (fun c_19 => ?_)
            · have h := h.1 c_19
              refine lv_iconst (v := (0 : Int32)) hx hb dX7_movesOf_72 (by decide) ?_
              refine lv_iadd hx hb dX7_movesOf_73 ?_
              refine lv_topi (fun x6_20 ex6_20 => ?_)
              have h := h x6_20 ex6_20
              refine lv_istore (lv' := [(6, .int x6_20), (10, .int (1 : Int32)), (8, .long r_2), (0, .long x0), (2, .long x2), (4, .long x4), (7, .int x7)]) hx hb dX7_movesOf_74 hl (by decide) rfl (fun ls hl => ?_)
              obtain ⟨x7_21, ex7_21⟩ : ∃ z : Int32, z = x7 + 1 := ⟨_, rfl⟩
              have h := h x7_21 ex7_21
              refine lv_iinc (v := x7_21) (lv' := [(7, .int x7_21), (6, .int x6_20), (10, .int (1 : Int32)), (8, .long r_2), (0, .long x0), (2, .long x2), (4, .long x4)]) hx hb dX7_movesOf_76 hl (k := 6) rfl (by rw [ex7_21]; rfl) (by decide) rfl (fun ls hl => ?_)
              refine lv_goto (tgt := 6) hx hb dX7_movesOf_79 (by decide) ?_
              exact ih x6_20 x7_21 _ _ _ h hP hS (lv_sub hl [4, 5, 6, 1, 0] rfl)
            · have h := h.2 c_19
              refine lv_lload hx hb dX7_movesOf_60 (lv_at hl 1 rfl) ?_
              refine lv_lload hx hb dX7_movesOf_62 (lv_at hl 4 rfl) ?_
              refine xr_if_lcmp_gt (tgt := 72) hx hb dX7_movesOf_64 dX7_movesOf_65 (by decide) (fun c_22 => ?_) (fun c_22 => ?_)
              · have h := h.1 c_22
                refine lv_iconst (v := (0 : Int32)) hx hb dX7_movesOf_72 (by decide) ?_
                refine lv_iadd hx hb dX7_movesOf_73 ?_
                refine lv_topi (fun x6_23 ex6_23 => ?_)
                have h := h x6_23 ex6_23
                refine lv_istore (lv' := [(6, .int x6_23), (10, .int (1 : Int32)), (8, .long r_2), (0, .long x0), (2, .long x2), (4, .long x4), (7, .int x7)]) hx hb dX7_movesOf_74 hl (by decide) rfl (fun ls hl => ?_)
                obtain ⟨x7_24, ex7_24⟩ : ∃ z : Int32, z = x7 + 1 := ⟨_, rfl⟩
                have h := h x7_24 ex7_24
                refine lv_iinc (v := x7_24) (lv' := [(7, .int x7_24), (6, .int x6_23), (10, .int (1 : Int32)), (8, .long r_2), (0, .long x0), (2, .long x2), (4, .long x4)]) hx hb dX7_movesOf_76 hl (k := 6) rfl (by rw [ex7_24]; rfl) (by decide) rfl (fun ls hl => ?_)
                refine lv_goto (tgt := 6) hx hb dX7_movesOf_79 (by decide) ?_
                exact ih x6_23 x7_24 _ _ _ h hP hS (lv_sub hl [4, 5, 6, 1, 0] rfl)
              · have h := h.2 c_22
                refine lv_iconst (v := (1 : Int32)) hx hb dX7_movesOf_68 (by decide) ?_
                refine lv_goto (tgt := 73) hx hb dX7_movesOf_69 (by decide) ?_
                refine lv_iadd hx hb dX7_movesOf_73 ?_
                refine lv_topi (fun x6_25 ex6_25 => ?_)
                have h := h x6_25 ex6_25
                refine lv_istore (lv' := [(6, .int x6_25), (10, .int (1 : Int32)), (8, .long r_2), (0, .long x0), (2, .long x2), (4, .long x4), (7, .int x7)]) hx hb dX7_movesOf_74 hl (by decide) rfl (fun ls hl => ?_)
                obtain ⟨x7_26, ex7_26⟩ : ∃ z : Int32, z = x7 + 1 := ⟨_, rfl⟩
                have h := h x7_26 ex7_26
                refine lv_iinc (v := x7_26) (lv' := [(7, .int x7_26), (6, .int x6_25), (10, .int (1 : Int32)), (8, .long r_2), (0, .long x0), (2, .long x2), (4, .long x4)]) hx hb dX7_movesOf_76 hl (k := 6) rfl (by rw [ex7_26]; rfl) (by decide) rfl (fun ls hl => ?_)
                refine lv_goto (tgt := 6) hx hb dX7_movesOf_79 (by decide) ?_
                exact ih x6_25 x7_26 _ _ _ h hP hS (lv_sub hl [4, 5, 6, 1, 0] rfl)
def PX7_movesOf   (x0 : Int64) (x2 : Int64) (x4 : Int64) (post : Int32 → Prop) : Prop :=
  (∃ n_27 : Nat, LX7_movesOf_6  x0 x2 x4  post n_27 (0 : Int32) (0 : Int32))
set_option maxHeartbeats 4000000 in
set_option maxRecDepth 100000 in
theorem qX7_movesOf (l : Launch) (dC : Nat → ClassId) (dI : Nat → Nat → Nat) (nn : Nat) (ad : Nat → Nat) (ff : Nat → va_E) (tys : List (ClassId × FieldType)) (A : Nat → Prop)  (x0 : Int64) (x2 : Int64) (x4 : Int64) (post : Int32 → Prop) (h : PX7_movesOf x0 x2 x4 post) : Met l yX7_movesOf wsX7_movesOf rmX7_movesOf (va_Pc [.long x0, .long x2, .long x4] (fun U => va_P (dC, dI) vwCl (xw nn ad ff) U.heap ∧ va_K (dC, dI) vwCl tys U)) (va_Qi (fun r9 (u : Unit) => post r9 ) (fun u t => va_P (dC, dI) vwCl (xw nn ad ff) t.heap) A) 0 0 A := by
  refine Met.ofW (cc := cX7_movesOf) (maxL := 11) (ret := (some .int)) (by decide) rfl ?_
  intro p e s m args below meth c s₁ B hml hv
  obtain ⟨eargs, hP, hK⟩ := hv
  have C0 : xC p s m args meth c cX7_movesOf 11 (some .int) RX7 wsX7_movesOf (dC, dI) tys := ⟨B.exec, B.bytes, hml, B.returns, B.notSynchronized, findClass_of_methodNamed B.named, atoms_spec (ws := wsX7_movesOf) B.pre, hK⟩
  obtain ⟨hx, hb, -, hr, hlocks, hown, hts, -⟩ := id C0
  have hS : va_S A s.heap s.heap [] := va_S.rf
  have hl := lv_entry ([.long x0, .long x2, .long x4]) (n := 11) (Nat.le_of_ble_eq_true rfl)
  have ef : entryFrame m args 11 = entryFrame m ([.long x0, .long x2, .long x4] : List Value).toArray 11 := by rw [eargs]
  rw [ef, lg_entry_eq]
  generalize (lg_sl ([.long x0, .long x2, .long x4]) ++ List.replicate (11 - (lg_sl ([.long x0, .long x2, .long x4])).length) Slot.unset).toArray = ls at hl ⊢
  have hl : lv_has ls 11 [(0, .long x0), (2, .long x2), (4, .long x4)] := hl
  have hP : va_P (dC, dI) vwCl (xw nn ad ff) s.heap := hP
  unfold PX7_movesOf at h
  refine lv_iconst (v := (0 : Int32)) hx hb dX7_movesOf_0 (by decide) ?_
  refine lv_istore (lv' := [(6, .int (0 : Int32)), (0, .long x0), (2, .long x2), (4, .long x4)]) hx hb dX7_movesOf_1 hl (by decide) rfl (fun ls hl => ?_)
  refine lv_iconst (v := (0 : Int32)) hx hb dX7_movesOf_3 (by decide) ?_
  refine lv_istore (lv' := [(7, .int (0 : Int32)), (6, .int (0 : Int32)), (0, .long x0), (2, .long x2), (4, .long x4)]) hx hb dX7_movesOf_4 hl (by decide) rfl (fun ls hl => ?_)
  obtain ⟨n_27, h⟩ := h
  exact kX7_movesOf_6 l dC dI nn ad ff tys A    x0 x2 x4  post C0  n_27 (0 : Int32) (0 : Int32) _ _ _ h hP hS (lv_sub hl [2, 3, 4, 1, 0] rfl)
abbrev rmX7_pass : Room := { frames := 3, cells := 0, slots := 0, locals := 67 }
theorem wX7_pass_c7 : ∀ w ∈ u_ws RX7 TX7 9, w ∈ wsX7_pass := by decide +kernel
theorem wX7_pass_f7 : Cond.fieldLink RX7 7 "DueWheelsModel" "s" "[J" ∈ wsX7_pass := by decide +kernel
def LX7_pass_2   (x1 : Int64)  (post : MmV → Prop) : Nat → Int32 → MmV → Prop
  | 0, _, _ => False
  | n + 1, x3, r => (((200 : Int32) ≤ x3 → (∀ r_2 : MmV, r_2 = m_ws r (vp_updL (m_s r) 3700 x1) → post r_2)) ∧ (¬ (200 : Int32) ≤ x3 → (PX7_hasTick r x3 (fun (r_3 : Int32) => ((r_3 = 0 → ∀ x3_5 : Int32, x3_5 = x3 + 1 → LX7_pass_2  x1 post n x3_5 r) ∧ (¬ r_3 = 0 → (PX7_get r x3 (3 : Int32) (fun (r_6 : Int64) => (PX7_movesOf r_6 (m_s r 3700) x1 (fun (r_7 : Int32) => (PX7_get r x3 (12 : Int32) (fun (r_8 : Int64) => (PX7_put r x3 (12 : Int32) (r_8 + (r_7.toInt64)) (fun (r_9 : MmV) => (∀ r_10 : MmV, r_10 = m_ws r_9 (vp_updL (m_s r_9) 3704 ((m_s r_9 3704) + (r_7.toInt64))) → ∀ x3_11 : Int32, x3_11 = x3 + 1 → LX7_pass_2  x1 post n x3_11 r_10)))))))))))))))
set_option maxHeartbeats 4000000 in
set_option maxRecDepth 100000 in
theorem kX7_pass_2 {p : Program} {e : Env} {s : State} {m : MethodId} {args : Array Value} {below : List Frame} {meth : Method} {c : Code} (l : Launch) (dC : Nat → ClassId) (dI : Nat → Nat → Nat) (ad : Nat → Nat) (ci : Nat → ClassId) (A : Nat → Prop) (hAD : xw_D 7 ad A)  (x1 : Int64)  (post : MmV → Prop) (C0 : xC p s m args meth c cX7_pass 5 none RX7 wsX7_pass (dC, dI) (xT ci)) : ∀ (n : Nat) (x3 : Int32) (r : MmV) (H : Heap) (locs : List Loc) (ls : Array Slot), LX7_pass_2  x1 post n x3 r → va_P (dC, dI) vwCl (xw 7 ad (mc ad ci r)) H → va_S A s.heap H locs → lv_has ls 5 [(0, .ref (ad 0)), (1, .long x1), (3, .int x3)] → W p l e rmX7_pass s m args below meth c H locs 0 0 (MQ below (va_Qv (fun u : MmV => post u) (fun u t => va_P (dC, dI) vwCl (xw 7 ad (mc ad ci u)) t.heap) A) args s 0 0 A) (F0 m 2 ls []) := by
  obtain ⟨hx, hb, -, hr, hlocks, hown, hts, hK⟩ := id C0
  intro n
  induction n with
  | zero =>
    intro x3 r H locs ls h
    exact False.elim h
  | succ n ih =>
    intro x3 r H locs ls h hP hS hl
    rw [LX7_pass_2] at h
    refine lv_iload_n hx hb dX7_pass_2 rfl (lv_at hl 2 rfl) ?_
    refine lv_sipush (v := (200 : Int32)) hx hb dX7_pass_3 (by decide) ?_
    refine lv_icmp_ge (tgt := 75) hx hb dX7_pass_6 (by decide) (fun c_1 => ?_) (fun c_1 => ?_)
    · have h := h.1 c_1
      refine lv_aload_n hx hb dX7_pass_75 rfl (lv_at hl 0 rfl) ?_
      refine xr_get (D := (dC, dI)) (C := RX7) (T := TX7) (N := 9) (v := .ref (ad 1)) hx hb hts wX7_pass_c7 hown hK hP 0 (by decide) me_M rfl 0 (by decide) wX7_pass_f7 rfl rfl dX7_pass_76 ?_
      refine lv_sipush (v := (3700 : Int32)) hx hb dX7_pass_79 (by decide) ?_
      refine lv_lload_n hx hb dX7_pass_82 rfl (lv_at hl 1 rfl) ?_
      obtain ⟨r_2, er_2⟩ : ∃ z : MmV, z = m_ws r (vp_updL (m_s r) 3700 x1) := ⟨_, rfl⟩
      have h := h r_2 er_2
      refine xr_last (k := 3700) (x := x1) (g := (mc ad ci r_2)) hx hb hK hP hAD hS 1 1 (by decide) me_s rfl rfl (x_in _ _ (by decide)) dX7_pass_83 (by rw [er_2]; exact mg_s) (fun H locs hP hS => ?_)
      exact W.vret hx hb hr (fun t ht hW => ⟨⟨r_2, rfl, h, x_ht ht hP⟩, hS.F ht⟩) hS.2.2 dX7_pass_84
    · have h := h.2 c_1
      refine lv_aload_n hx hb dX7_pass_9 rfl (lv_at hl 0 rfl) ?_
      refine lv_iload_n hx hb dX7_pass_10 rfl (lv_at hl 2 rfl) ?_
      refine va_calli (va_runV (As := [.int x3]) (rest := []) ⟨hx, hb, C0.2.2.1, hown, hts⟩ (qX7_hasTick l dC dI ad ci A hAD r x3 _ h) (cwV 1 hts gX7_pass_X7_hasTick rfl rfl rfl (by decide +kernel) ⟨Nat.le_of_ble_eq_true rfl, Nat.le_of_ble_eq_true rfl⟩) ⟨xr_blind, xr_recv (r := (RX7, TX7, 9)) hK hP 0 (by decide) me_M rfl, xr_pre hP hK⟩ rfl rfl hl.1 rfl (lv_room (Nat.le_of_ble_eq_true rfl)) dX7_pass_11 ⟨Nat.le_of_ble_eq_true rfl, Nat.le_of_ble_eq_true rfl⟩) hS (fun _ _ h => h) (fun _ h => h) (fun r_3 _ t9 H locs ht hvm h hB _ _ hS => ?_)
      refine W.cs (cells' := 0) (slots' := 0) rfl rfl ?_
      have hP := x_th ht hB
      have hP : va_P (dC, dI) vwCl (xw 7 ad (mc ad ci r)) H := hP
      refine lv_if_eq (tgt := 69) hx hb dX7_pass_14 (by decide) (fun c_4 => ?_) (fun c_4 => ?_)
      · have h := h.1 c_4
        obtain ⟨x3_5, ex3_5⟩ : ∃ z : Int32, z = x3 + 1 := ⟨_, rfl⟩
        have h := h x3_5 ex3_5
        refine lv_iinc (v := x3_5) (lv' := [(3, .int x3_5), (0, .ref (ad 0)), (1, .long x1)]) hx hb dX7_pass_69 hl (k := 2) rfl (by rw [ex3_5]; rfl) (by decide) rfl (fun ls hl => ?_)
        refine lv_goto (tgt := 2) hx hb dX7_pass_72 (by decide) ?_
        exact ih x3_5 r _ _ _ h hP hS (lv_sub hl [1, 2, 0] rfl)
      · have h := h.2 c_4
        refine lv_aload_n hx hb dX7_pass_17 rfl (lv_at hl 0 rfl) ?_
        refine lv_iload_n hx hb dX7_pass_18 rfl (lv_at hl 2 rfl) ?_
        refine lv_iconst (v := (3 : Int32)) hx hb dX7_pass_19 (by decide) ?_
        refine va_calll (va_runV (As := [.int x3, .int (3 : Int32)]) (rest := []) ⟨hx, hb, C0.2.2.1, hown, hts⟩ (qX7_get l dC dI ad ci A hAD r x3 (3 : Int32) _ h) (cwV 2 hts gX7_pass_X7_get rfl rfl rfl (by decide +kernel) ⟨Nat.le_of_ble_eq_true rfl, Nat.le_of_ble_eq_true rfl⟩) ⟨xr_blind, xr_recv (r := (RX7, TX7, 9)) hK hP 0 (by decide) me_M rfl, xr_pre hP hK⟩ rfl rfl hl.1 rfl (lv_room (Nat.le_of_ble_eq_true rfl)) dX7_pass_20 ⟨Nat.le_of_ble_eq_true rfl, Nat.le_of_ble_eq_true rfl⟩) hS (fun _ _ h => h) (fun _ h => h) (fun r_6 _ t9 H locs ht hvm h hB _ _ hS => ?_)
        refine W.cs (cells' := 0) (slots' := 0) rfl rfl ?_
        have hP := x_th ht hB
        have hP : va_P (dC, dI) vwCl (xw 7 ad (mc ad ci r)) H := hP
        refine lv_aload_n hx hb dX7_pass_23 rfl (lv_at hl 0 rfl) ?_
        refine xr_get (D := (dC, dI)) (C := RX7) (T := TX7) (N := 9) (v := .ref (ad 1)) hx hb hts wX7_pass_c7 hown hK hP 0 (by decide) me_M rfl 0 (by decide) wX7_pass_f7 rfl rfl dX7_pass_24 ?_
        refine lv_sipush (v := (3700 : Int32)) hx hb dX7_pass_27 (by decide) ?_
        refine xr_lald (k := 3700) hx hb hK hP 1 1 (by decide) me_s rfl rfl (x_in _ _ (by decide)) dX7_pass_30 ?_
        refine lv_lload_n hx hb dX7_pass_31 rfl (lv_at hl 1 rfl) ?_
        refine va_calli (va_runS (As := [.long r_6, .long (m_s r 3700), .long x1]) (rest := []) ⟨hx, hb, C0.2.2.1, hown, hts⟩ (qX7_movesOf l dC dI 7 ad (mc ad ci r) (xT ci) A r_6 (m_s r 3700) x1 _ h) (va_cwS 3 hts gX7_pass_X7_movesOf rfl rfl rfl (by decide +kernel) ⟨Nat.le_of_ble_eq_true rfl, Nat.le_of_ble_eq_true rfl⟩) ⟨xr_blind, xr_pre hP hK⟩ rfl rfl hl.1 rfl (lv_room (Nat.le_of_ble_eq_true rfl)) dX7_pass_32 ⟨Nat.le_of_ble_eq_true rfl, Nat.le_of_ble_eq_true rfl⟩) hS (fun _ _ h => h) (fun _ h => h) (fun r_7 _ t9 H locs ht hvm h hB _ _ hS => ?_)
        refine W.cs (cells' := 0) (slots' := 0) rfl rfl ?_
        have hP := x_th ht hB
        have hP : va_P (dC, dI) vwCl (xw 7 ad (mc ad ci r)) H := hP
        refine lv_istore (lv' := [(4, .int r_7), (0, .ref (ad 0)), (1, .long x1), (3, .int x3)]) hx hb dX7_pass_35 hl (by decide) rfl (fun ls hl => ?_)
        refine lv_aload_n hx hb dX7_pass_37 rfl (lv_at hl 1 rfl) ?_
        refine lv_iload_n hx hb dX7_pass_38 rfl (lv_at hl 3 rfl) ?_
        refine lv_bipush (v := (12 : Int32)) hx hb dX7_pass_39 (by decide) ?_
        refine lv_aload_n hx hb dX7_pass_41 rfl (lv_at hl 1 rfl) ?_
        refine lv_iload_n hx hb dX7_pass_42 rfl (lv_at hl 3 rfl) ?_
        refine lv_bipush (v := (12 : Int32)) hx hb dX7_pass_43 (by decide) ?_
        refine va_calll (va_runV (As := [.int x3, .int (12 : Int32)]) (rest := [.int (12 : Int32), .int x3, .ref (ad 0)]) ⟨hx, hb, C0.2.2.1, hown, hts⟩ (qX7_get l dC dI ad ci A hAD r x3 (12 : Int32) _ h) (cwV 2 hts gX7_pass_X7_get rfl rfl rfl (by decide +kernel) ⟨Nat.le_of_ble_eq_true rfl, Nat.le_of_ble_eq_true rfl⟩) ⟨xr_blind, xr_recv (r := (RX7, TX7, 9)) hK hP 0 (by decide) me_M rfl, xr_pre hP hK⟩ rfl rfl hl.1 rfl (lv_room (Nat.le_of_ble_eq_true rfl)) dX7_pass_45 ⟨Nat.le_of_ble_eq_true rfl, Nat.le_of_ble_eq_true rfl⟩) hS (fun _ _ h => h) (fun _ h => h) (fun r_8 _ t9 H locs ht hvm h hB _ _ hS => ?_)
        refine W.cs (cells' := 0) (slots' := 0) rfl rfl ?_
        have hP := x_th ht hB
        have hP : va_P (dC, dI) vwCl (xw 7 ad (mc ad ci r)) H := hP
        refine lv_iload hx hb dX7_pass_48 (lv_at hl 0 rfl) ?_
        refine lv_i2l hx hb dX7_pass_50 rfl ?_
        refine lv_ladd hx hb dX7_pass_51 ?_
        refine va_callv (va_runV (As := [.int x3, .int (12 : Int32), .long (r_8 + (r_7.toInt64))]) (rest := []) ⟨hx, hb, C0.2.2.1, hown, hts⟩ (qX7_put l dC dI ad ci A hAD r x3 (12 : Int32) (r_8 + (r_7.toInt64)) _ h) (cwV 3 hts gX7_pass_X7_put rfl rfl rfl (by decide +kernel) ⟨Nat.le_of_ble_eq_true rfl, Nat.le_of_ble_eq_true rfl⟩) ⟨xr_blind, xr_recv (r := (RX7, TX7, 9)) hK hP 0 (by decide) me_M rfl, xr_pre hP hK⟩ rfl rfl hl.1 rfl (lv_room (Nat.le_of_ble_eq_true rfl)) dX7_pass_52 ⟨Nat.le_of_ble_eq_true rfl, Nat.le_of_ble_eq_true rfl⟩) hS (fun _ _ h => h) (fun _ h => h) (fun r_9 t9 H locs ht hvm h hB _ _ hS => ?_)
        refine W.cs (cells' := 0) (slots' := 0) rfl rfl ?_
        have hP := x_th ht hB
        have hP : va_P (dC, dI) vwCl (xw 7 ad (mc ad ci r_9)) H := hP
        refine lv_aload_n hx hb dX7_pass_55 rfl (lv_at hl 1 rfl) ?_
        refine xr_get (D := (dC, dI)) (C := RX7) (T := TX7) (N := 9) (v := .ref (ad 1)) hx hb hts wX7_pass_c7 hown hK hP 0 (by decide) me_M rfl 0 (by decide) wX7_pass_f7 rfl rfl dX7_pass_56 ?_
        refine lv_sipush (v := (3704 : Int32)) hx hb dX7_pass_59 (by decide) ?_
        refine lv_dup2_11 hx hb dX7_pass_62 rfl rfl ?_
        refine xr_lald (k := 3704) hx hb hK hP 1 1 (by decide) me_s rfl rfl (x_in _ _ (by decide)) dX7_pass_63 ?_
        refine lv_iload hx hb dX7_pass_64 (lv_at hl 0 rfl) ?_
        refine lv_i2l hx hb dX7_pass_66 rfl ?_
        refine lv_ladd hx hb dX7_pass_67 ?_
        obtain ⟨r_10, er_10⟩ : ∃ z : MmV, z = m_ws r_9 (vp_updL (m_s r_9) 3704 ((m_s r_9 3704) + (r_7.toInt64))) := ⟨_, rfl⟩
        have h := h r_10 er_10
        refine xr_last (k := 3704) (x := ((m_s r_9 3704) + (r_7.toInt64))) (g := (mc ad ci r_10)) hx hb hK hP hAD hS 1 1 (by decide) me_s rfl rfl (x_in _ _ (by decide)) dX7_pass_68 (by rw [er_10]; exact mg_s) (fun H locs hP hS => ?_)
        obtain ⟨x3_11, ex3_11⟩ : ∃ z : Int32, z = x3 + 1 := ⟨_, rfl⟩
        have h := h x3_11 ex3_11
        refine lv_iinc (v := x3_11) (lv' := [(3, .int x3_11), (4, .int r_7), (0, .ref (ad 0)), (1, .long x1)]) hx hb dX7_pass_69 hl (k := 3) rfl (by rw [ex3_11]; rfl) (by decide) rfl (fun ls hl => ?_)
        refine lv_goto (tgt := 2) hx hb dX7_pass_72 (by decide) ?_
        exact ih x3_11 r_10 _ _ _ h hP hS (lv_sub hl [2, 3, 0] rfl)
def PX7_pass  (r : MmV) (x1 : Int64) (post : MmV → Prop) : Prop :=
  (∃ n_12 : Nat, LX7_pass_2  x1  post n_12 (0 : Int32) r)
set_option maxHeartbeats 4000000 in
set_option maxRecDepth 100000 in
theorem qX7_pass (l : Launch) (dC : Nat → ClassId) (dI : Nat → Nat → Nat) (ad : Nat → Nat) (ci : Nat → ClassId) (A : Nat → Prop) (hAD : xw_D 7 ad A) (r : MmV) (x1 : Int64) (post : MmV → Prop) (h : PX7_pass r x1 post) : Met l yX7_pass wsX7_pass rmX7_pass (va_Pc [.ref (ad 0), .long x1] (fun U => va_P (dC, dI) vwCl (xw 7 ad (mc ad ci r)) U.heap ∧ va_K (dC, dI) vwCl (xT ci) U)) (va_Qv (fun u : MmV => post u) (fun u t => va_P (dC, dI) vwCl (xw 7 ad (mc ad ci u)) t.heap) A) 0 0 A := by
  refine Met.ofW (cc := cX7_pass) (maxL := 5) (ret := none) (by decide) rfl ?_
  intro p e s m args below meth c s₁ B hml hv
  obtain ⟨eargs, hP, hK⟩ := hv
  have C0 : xC p s m args meth c cX7_pass 5 none RX7 wsX7_pass (dC, dI) (xT ci) := ⟨B.exec, B.bytes, hml, B.returns, B.notSynchronized, findClass_of_methodNamed B.named, atoms_spec (ws := wsX7_pass) B.pre, hK⟩
  obtain ⟨hx, hb, -, hr, hlocks, hown, hts, -⟩ := id C0
  have hS : va_S A s.heap s.heap [] := va_S.rf
  have hl := lv_entry ([.ref (ad 0), .long x1]) (n := 5) (Nat.le_of_ble_eq_true rfl)
  have ef : entryFrame m args 5 = entryFrame m ([.ref (ad 0), .long x1] : List Value).toArray 5 := by rw [eargs]
  rw [ef, lg_entry_eq]
  generalize (lg_sl ([.ref (ad 0), .long x1]) ++ List.replicate (5 - (lg_sl ([.ref (ad 0), .long x1])).length) Slot.unset).toArray = ls at hl ⊢
  have hl : lv_has ls 5 [(0, .ref (ad 0)), (1, .long x1)] := hl
  have hP : va_P (dC, dI) vwCl (xw 7 ad (mc ad ci r)) s.heap := hP
  unfold PX7_pass at h
  refine lv_iconst (v := (0 : Int32)) hx hb dX7_pass_0 (by decide) ?_
  refine lv_istore_n (lv' := [(3, .int (0 : Int32)), (0, .ref (ad 0)), (1, .long x1)]) hx hb dX7_pass_1 rfl hl (by decide) rfl (fun ls hl => ?_)
  obtain ⟨n_12, h⟩ := h
  exact kX7_pass_2 l dC dI ad ci A hAD    x1  post C0  n_12 (0 : Int32) r _ _ _ h hP hS (lv_sub hl [1, 2, 0] rfl)
abbrev rmX7_nextTick : Room := { frames := 3, cells := 0, slots := 0, locals := 67 }
theorem wX7_nextTick_k67 : Cond.constantLong RX7 67 (1125899906842624) ∈ wsX7_nextTick := by decide +kernel
def LX7_nextTick_6  (r : MmV)   (post : Int64 → Prop) : Nat → Int64 → Int32 → Prop
  | 0, _, _ => False
  | n + 1, x1, x3 => (((200 : Int32) ≤ x3 → post x1) ∧ (¬ (200 : Int32) ≤ x3 → (PX7_hasTick r x3 (fun (r_2 : Int32) => ((r_2 = 0 → ∀ x3_4 : Int32, x3_4 = x3 + 1 → LX7_nextTick_6  r post n x1 x3_4) ∧ (¬ r_2 = 0 → (PX7_get r x3 (3 : Int32) (fun (r_5 : Int64) => ((x1 ≤ r_5 → ∀ x3_7 : Int32, x3_7 = x3 + 1 → LX7_nextTick_6  r post n x1 x3_7) ∧ (¬ x1 ≤ r_5 → (PX7_get r x3 (3 : Int32) (fun (r_8 : Int64) => ∀ x3_9 : Int32, x3_9 = x3 + 1 → LX7_nextTick_6  r post n r_8 x3_9))))))))))))
set_option maxHeartbeats 4000000 in
set_option maxRecDepth 100000 in
theorem kX7_nextTick_6 {p : Program} {e : Env} {s : State} {m : MethodId} {args : Array Value} {below : List Frame} {meth : Method} {c : Code} (l : Launch) (dC : Nat → ClassId) (dI : Nat → Nat → Nat) (ad : Nat → Nat) (ci : Nat → ClassId) (A : Nat → Prop) (hAD : xw_D 7 ad A) (r : MmV)   (post : Int64 → Prop) (C0 : xC p s m args meth c cX7_nextTick 4 (some .long) RX7 wsX7_nextTick (dC, dI) (xT ci)) : ∀ (n : Nat) (x1 : Int64) (x3 : Int32) (H : Heap) (locs : List Loc) (ls : Array Slot), LX7_nextTick_6  r post n x1 x3 → va_P (dC, dI) vwCl (xw 7 ad (mc ad ci r)) H → va_S A s.heap H locs → lv_has ls 4 [(0, .ref (ad 0)), (1, .long x1), (3, .int x3)] → W p l e rmX7_nextTick s m args below meth c H locs 0 0 (MQ below (va_Ql (fun r9 (u : Unit) => post r9 ) (fun u t => va_P (dC, dI) vwCl (xw 7 ad (mc ad ci r)) t.heap) A) args s 0 0 A) (F0 m 6 ls []) := by
  obtain ⟨hx, hb, -, hr, hlocks, hown, hts, hK⟩ := id C0
  intro n
  induction n with
  | zero =>
    intro x1 x3 H locs ls h
    exact False.elim h
  | succ n ih =>
    intro x1 x3 H locs ls h hP hS hl
    rw [LX7_nextTick_6] at h
    refine lv_iload_n hx hb dX7_nextTick_6 rfl (lv_at hl 2 rfl) ?_
    refine lv_sipush (v := (200 : Int32)) hx hb dX7_nextTick_7 (by decide) ?_
    refine lv_icmp_ge (tgt := 49) hx hb dX7_nextTick_10 (by decide) (fun c_1 => ?_) (fun c_1 => ?_)
    · have h := h.1 c_1
      refine lv_lload_n hx hb dX7_nextTick_49 rfl (lv_at hl 1 rfl) ?_
      exact W.lret (v := x1) hx hb hr (fun t ht hW => ⟨⟨x1, (), rfl, h, x_ht ht hP⟩, hS.F ht⟩) hS.2.2 dX7_nextTick_50
    · have h := h.2 c_1
      refine lv_aload_n hx hb dX7_nextTick_13 rfl (lv_at hl 0 rfl) ?_
      refine lv_iload_n hx hb dX7_nextTick_14 rfl (lv_at hl 2 rfl) ?_
      refine va_calli (va_runV (As := [.int x3]) (rest := []) ⟨hx, hb, C0.2.2.1, hown, hts⟩ (qX7_hasTick l dC dI ad ci A hAD r x3 _ h) (cwV 1 hts gX7_nextTick_X7_hasTick rfl rfl rfl (by decide +kernel) ⟨Nat.le_of_ble_eq_true rfl, Nat.le_of_ble_eq_true rfl⟩) ⟨xr_blind, xr_recv (r := (RX7, TX7, 9)) hK hP 0 (by decide) me_M rfl, xr_pre hP hK⟩ rfl rfl hl.1 rfl (lv_room (Nat.le_of_ble_eq_true rfl)) dX7_nextTick_15 ⟨Nat.le_of_ble_eq_true rfl, Nat.le_of_ble_eq_true rfl⟩) hS (fun _ _ h => h) (fun _ h => h) (fun r_2 _ t9 H locs ht hvm h hB _ _ hS => ?_)
      refine W.cs (cells' := 0) (slots' := 0) rfl rfl ?_
      have hP := x_th ht hB
      have hP : va_P (dC, dI) vwCl (xw 7 ad (mc ad ci r)) H := hP
      refine lv_if_eq (tgt := 41) hx hb dX7_nextTick_18 (by decide) (fun c_3 => ?_) (fun c_3 => ?_)
      · have h := h.1 c_3
        refine lv_lload_n hx hb dX7_nextTick_41 rfl (lv_at hl 1 rfl) ?_
        refine lv_lstore_n (lv' := [(1, .long x1), (0, .ref (ad 0)), (3, .int x3)]) hx hb dX7_nextTick_42 rfl hl (by decide) rfl (fun ls hl => ?_)
        obtain ⟨x3_4, ex3_4⟩ : ∃ z : Int32, z = x3 + 1 := ⟨_, rfl⟩
        have h := h x3_4 ex3_4
        refine lv_iinc (v := x3_4) (lv' := [(3, .int x3_4), (1, .long x1), (0, .ref (ad 0))]) hx hb dX7_nextTick_43 hl (k := 2) rfl (by rw [ex3_4]; rfl) (by decide) rfl (fun ls hl => ?_)
        refine lv_goto (tgt := 6) hx hb dX7_nextTick_46 (by decide) ?_
        exact ih x1 x3_4 _ _ _ h hP hS (lv_sub hl [2, 1, 0] rfl)
      · have h := h.2 c_3
        refine lv_aload_n hx hb dX7_nextTick_21 rfl (lv_at hl 0 rfl) ?_
        refine lv_iload_n hx hb dX7_nextTick_22 rfl (lv_at hl 2 rfl) ?_
        refine lv_iconst (v := (3 : Int32)) hx hb dX7_nextTick_23 (by decide) ?_
        refine va_calll (va_runV (As := [.int x3, .int (3 : Int32)]) (rest := []) ⟨hx, hb, C0.2.2.1, hown, hts⟩ (qX7_get l dC dI ad ci A hAD r x3 (3 : Int32) _ h) (cwV 2 hts gX7_nextTick_X7_get rfl rfl rfl (by decide +kernel) ⟨Nat.le_of_ble_eq_true rfl, Nat.le_of_ble_eq_true rfl⟩) ⟨xr_blind, xr_recv (r := (RX7, TX7, 9)) hK hP 0 (by decide) me_M rfl, xr_pre hP hK⟩ rfl rfl hl.1 rfl (lv_room (Nat.le_of_ble_eq_true rfl)) dX7_nextTick_24 ⟨Nat.le_of_ble_eq_true rfl, Nat.le_of_ble_eq_true rfl⟩) hS (fun _ _ h => h) (fun _ h => h) (fun r_5 _ t9 H locs ht hvm h hB _ _ hS => ?_)
        refine W.cs (cells' := 0) (slots' := 0) rfl rfl ?_
        have hP := x_th ht hB
        have hP : va_P (dC, dI) vwCl (xw 7 ad (mc ad ci r)) H := hP
        refine lv_lload_n hx hb dX7_nextTick_27 rfl (lv_at hl 1 rfl) ?_
        refine xr_if_lcmp_ge (tgt := 41) hx hb dX7_nextTick_28 dX7_nextTick_29 (by decide) (fun c_6 => ?_) (fun c_6 => ?_)
        · have h := h.1 c_6
          refine lv_lload_n hx hb dX7_nextTick_41 rfl (lv_at hl 1 rfl) ?_
          refine lv_lstore_n (lv' := [(1, .long x1), (0, .ref (ad 0)), (3, .int x3)]) hx hb dX7_nextTick_42 rfl hl (by decide) rfl (fun ls hl => ?_)
          obtain ⟨x3_7, ex3_7⟩ : ∃ z : Int32, z = x3 + 1 := ⟨_, rfl⟩
          have h := h x3_7 ex3_7
          refine lv_iinc (v := x3_7) (lv' := [(3, .int x3_7), (1, .long x1), (0, .ref (ad 0))]) hx hb dX7_nextTick_43 hl (k := 2) rfl (by rw [ex3_7]; rfl) (by decide) rfl (fun ls hl => ?_)
          refine lv_goto (tgt := 6) hx hb dX7_nextTick_46 (by decide) ?_
          exact ih x1 x3_7 _ _ _ h hP hS (lv_sub hl [2, 1, 0] rfl)
        · have h := h.2 c_6
          refine lv_aload_n hx hb dX7_nextTick_32 rfl (lv_at hl 0 rfl) ?_
          refine lv_iload_n hx hb dX7_nextTick_33 rfl (lv_at hl 2 rfl) ?_
          refine lv_iconst (v := (3 : Int32)) hx hb dX7_nextTick_34 (by decide) ?_
          refine va_calll (va_runV (As := [.int x3, .int (3 : Int32)]) (rest := []) ⟨hx, hb, C0.2.2.1, hown, hts⟩ (qX7_get l dC dI ad ci A hAD r x3 (3 : Int32) _ h) (cwV 2 hts gX7_nextTick_X7_get rfl rfl rfl (by decide +kernel) ⟨Nat.le_of_ble_eq_true rfl, Nat.le_of_ble_eq_true rfl⟩) ⟨xr_blind, xr_recv (r := (RX7, TX7, 9)) hK hP 0 (by decide) me_M rfl, xr_pre hP hK⟩ rfl rfl hl.1 rfl (lv_room (Nat.le_of_ble_eq_true rfl)) dX7_nextTick_35 ⟨Nat.le_of_ble_eq_true rfl, Nat.le_of_ble_eq_true rfl⟩) hS (fun _ _ h => h) (fun _ h => h) (fun r_8 _ t9 H locs ht hvm h hB _ _ hS => ?_)
          refine W.cs (cells' := 0) (slots' := 0) rfl rfl ?_
          have hP := x_th ht hB
          have hP : va_P (dC, dI) vwCl (xw 7 ad (mc ad ci r)) H := hP
          refine lv_goto (tgt := 42) hx hb dX7_nextTick_38 (by decide) ?_
          refine lv_lstore_n (lv' := [(1, .long r_8), (0, .ref (ad 0)), (3, .int x3)]) hx hb dX7_nextTick_42 rfl hl (by decide) rfl (fun ls hl => ?_)
          obtain ⟨x3_9, ex3_9⟩ : ∃ z : Int32, z = x3 + 1 := ⟨_, rfl⟩
          have h := h x3_9 ex3_9
          refine lv_iinc (v := x3_9) (lv' := [(3, .int x3_9), (1, .long r_8), (0, .ref (ad 0))]) hx hb dX7_nextTick_43 hl (k := 2) rfl (by rw [ex3_9]; rfl) (by decide) rfl (fun ls hl => ?_)
          refine lv_goto (tgt := 6) hx hb dX7_nextTick_46 (by decide) ?_
          exact ih r_8 x3_9 _ _ _ h hP hS (lv_sub hl [2, 1, 0] rfl)
def PX7_nextTick  (r : MmV)  (post : Int64 → Prop) : Prop :=
  (∃ n_10 : Nat, LX7_nextTick_6  r  post n_10 (1125899906842624 : Int64) (0 : Int32))
set_option maxHeartbeats 4000000 in
set_option maxRecDepth 100000 in
theorem qX7_nextTick (l : Launch) (dC : Nat → ClassId) (dI : Nat → Nat → Nat) (ad : Nat → Nat) (ci : Nat → ClassId) (A : Nat → Prop) (hAD : xw_D 7 ad A) (r : MmV)  (post : Int64 → Prop) (h : PX7_nextTick r post) : Met l yX7_nextTick wsX7_nextTick rmX7_nextTick (va_Pc [.ref (ad 0)] (fun U => va_P (dC, dI) vwCl (xw 7 ad (mc ad ci r)) U.heap ∧ va_K (dC, dI) vwCl (xT ci) U)) (va_Ql (fun r9 (u : Unit) => post r9 ) (fun u t => va_P (dC, dI) vwCl (xw 7 ad (mc ad ci r)) t.heap) A) 0 0 A := by
  refine Met.ofW (cc := cX7_nextTick) (maxL := 4) (ret := (some .long)) (by decide) rfl ?_
  intro p e s m args below meth c s₁ B hml hv
  obtain ⟨eargs, hP, hK⟩ := hv
  have C0 : xC p s m args meth c cX7_nextTick 4 (some .long) RX7 wsX7_nextTick (dC, dI) (xT ci) := ⟨B.exec, B.bytes, hml, B.returns, B.notSynchronized, findClass_of_methodNamed B.named, atoms_spec (ws := wsX7_nextTick) B.pre, hK⟩
  obtain ⟨hx, hb, -, hr, hlocks, hown, hts, -⟩ := id C0
  have hS : va_S A s.heap s.heap [] := va_S.rf
  have hl := lv_entry ([.ref (ad 0)]) (n := 4) (Nat.le_of_ble_eq_true rfl)
  have ef : entryFrame m args 4 = entryFrame m ([.ref (ad 0)] : List Value).toArray 4 := by rw [eargs]
  rw [ef, lg_entry_eq]
  generalize (lg_sl ([.ref (ad 0)]) ++ List.replicate (4 - (lg_sl ([.ref (ad 0)])).length) Slot.unset).toArray = ls at hl ⊢
  have hl : lv_has ls 4 [(0, .ref (ad 0))] := hl
  have hP : va_P (dC, dI) vwCl (xw 7 ad (mc ad ci r)) s.heap := hP
  unfold PX7_nextTick at h
  refine lv_ldc2 (v := (1125899906842624 : Int64)) hx hb hown (hts _ wX7_nextTick_k67) dX7_nextTick_0 ?_
  refine lv_lstore_n (lv' := [(1, .long (1125899906842624 : Int64)), (0, .ref (ad 0))]) hx hb dX7_nextTick_3 rfl hl (by decide) rfl (fun ls hl => ?_)
  refine lv_iconst (v := (0 : Int32)) hx hb dX7_nextTick_4 (by decide) ?_
  refine lv_istore_n (lv' := [(3, .int (0 : Int32)), (1, .long (1125899906842624 : Int64)), (0, .ref (ad 0))]) hx hb dX7_nextTick_5 rfl hl (by decide) rfl (fun ls hl => ?_)
  obtain ⟨n_10, h⟩ := h
  exact kX7_nextTick_6 l dC dI ad ci A hAD r     post C0  n_10 (1125899906842624 : Int64) (0 : Int32) _ _ _ h hP hS (lv_sub hl [2, 1, 0] rfl)
abbrev rmX7_find : Room := { frames := 3, cells := 0, slots := 0, locals := 67 }
theorem wX7_find_c7 : ∀ w ∈ u_ws RX7 TX7 9, w ∈ wsX7_find := by decide +kernel
theorem wX7_find_f16 : Cond.fieldLink RX7 16 "DueWheelsModel" "goers" "[I" ∈ wsX7_find := by decide +kernel
theorem wX7_find_f124 : Cond.fieldLink RX7 124 "DueWheelsModel" "goerCount" "I" ∈ wsX7_find := by decide +kernel
def LX7_find_86   (x1 : Int32) (x2 : Int64) (x4 : Int32) (x5 : Int32) (x6 : Int32) (K142 : Int32 → MmV → Prop) (post : MmV → Prop) : Nat → Int32 → MmV → Prop
  | 0, _, _ => False
  | n + 1, x8, r => ((x8 ≤ x5 → K142 x8 r) ∧ (¬ x8 ≤ x5 → (vp_in (x8 - (1 : Int32)) 200 ∧ (PX7_get r (m_gs r ((x8 - (1 : Int32)).toNatClampNeg)) (11 : Int32) (fun (r_17 : Int64) => (PX7_get r x6 (11 : Int32) (fun (r_18 : Int64) => ((r_17 ≤ r_18 → K142 x8 r) ∧ (¬ r_17 ≤ r_18 → (vp_in (x8 - (1 : Int32)) 200 ∧ (vp_in x8 200 ∧ (∀ r_22 : MmV, r_22 = m_wgs r (upd (m_gs r) (x8.toNatClampNeg) (m_gs r ((x8 - (1 : Int32)).toNatClampNeg))) → ∀ x8_23 : Int32, x8_23 = x8 + (-1) → LX7_find_86  x1 x2 x4 x5 x6 K142 post n x8_23 r_22))))))))))))
set_option maxHeartbeats 4000000 in
set_option maxRecDepth 100000 in
theorem kX7_find_86 {p : Program} {e : Env} {s : State} {m : MethodId} {args : Array Value} {below : List Frame} {meth : Method} {c : Code} (l : Launch) (dC : Nat → ClassId) (dI : Nat → Nat → Nat) (ad : Nat → Nat) (ci : Nat → ClassId) (A : Nat → Prop) (hAD : xw_D 7 ad A)  (x1 : Int32) (x2 : Int64) (x4 : Int32) (x5 : Int32) (x6 : Int32) (K142 : Int32 → MmV → Prop) (post : MmV → Prop) (C0 : xC p s m args meth c cX7_find 9 none RX7 wsX7_find (dC, dI) (xT ci)) (hK142 : ∀ (x8 : Int32) (r : MmV) (H : Heap) (locs : List Loc) (ls : Array Slot), K142 x8 r → va_P (dC, dI) vwCl (xw 7 ad (mc ad ci r)) H → va_S A s.heap H locs → lv_has ls 9 [(0, .ref (ad 0)), (1, .int x1), (2, .long x2), (4, .int x4), (5, .int x5), (6, .int x6), (8, .int x8)] → W p l e rmX7_find s m args below meth c H locs 0 0 (MQ below (va_Qv (fun u : MmV => post u) (fun u t => va_P (dC, dI) vwCl (xw 7 ad (mc ad ci u)) t.heap) A) args s 0 0 A) (F0 m 142 ls [])) : ∀ (n : Nat) (x8 : Int32) (r : MmV) (H : Heap) (locs : List Loc) (ls : Array Slot), LX7_find_86  x1 x2 x4 x5 x6 K142 post n x8 r → va_P (dC, dI) vwCl (xw 7 ad (mc ad ci r)) H → va_S A s.heap H locs → lv_has ls 9 [(0, .ref (ad 0)), (1, .int x1), (2, .long x2), (4, .int x4), (5, .int x5), (6, .int x6), (8, .int x8)] → W p l e rmX7_find s m args below meth c H locs 0 0 (MQ below (va_Qv (fun u : MmV => post u) (fun u t => va_P (dC, dI) vwCl (xw 7 ad (mc ad ci u)) t.heap) A) args s 0 0 A) (F0 m 86 ls []) := by
  obtain ⟨hx, hb, -, hr, hlocks, hown, hts, hK⟩ := id C0
  intro n
  induction n with
  | zero =>
    intro x8 r H locs ls h
    exact False.elim h
  | succ n ih =>
    intro x8 r H locs ls h hP hS hl
    rw [LX7_find_86] at h
    refine lv_iload hx hb dX7_find_86 (lv_at hl 6 rfl) ?_
    refine lv_iload hx hb dX7_find_88 (lv_at hl 4 rfl) ?_
    refine lv_icmp_le (tgt := 142) hx hb dX7_find_90 (by decide) (fun c_15 => ?_) (fun c_15 => ?_)
    · have h := h.1 c_15
      exact hK142 x8 r _ _ _ h hP hS (lv_sub hl [0, 1, 2, 3, 4, 5, 6] rfl)
    · have h := h.2 c_15
      refine lv_aload_n hx hb dX7_find_93 rfl (lv_at hl 0 rfl) ?_
      refine lv_aload_n hx hb dX7_find_94 rfl (lv_at hl 0 rfl) ?_
      refine xr_get (D := (dC, dI)) (C := RX7) (T := TX7) (N := 9) (v := .ref (ad 3)) hx hb hts wX7_find_c7 hown hK hP 0 (by decide) me_M rfl 3 (by decide) wX7_find_f16 rfl rfl dX7_find_95 ?_
      refine lv_iload hx hb dX7_find_98 (lv_at hl 6 rfl) ?_
      refine lv_iconst (v := (1 : Int32)) hx hb dX7_find_100 (by decide) ?_
      refine lv_isub hx hb dX7_find_101 ?_
      obtain ⟨g_16, h⟩ := h
      refine xr_iald (k := (x8 - (1 : Int32)).toNatClampNeg) hx hb hK hP 3 0 (by decide) me_gs rfl rfl g_16 dX7_find_102 ?_
      refine lv_bipush (v := (11 : Int32)) hx hb dX7_find_103 (by decide) ?_
      refine va_calll (va_runV (As := [.int (m_gs r ((x8 - (1 : Int32)).toNatClampNeg)), .int (11 : Int32)]) (rest := []) ⟨hx, hb, C0.2.2.1, hown, hts⟩ (qX7_get l dC dI ad ci A hAD r (m_gs r ((x8 - (1 : Int32)).toNatClampNeg)) (11 : Int32) _ h) (cwV 2 hts gX7_find_X7_get rfl rfl rfl (by decide +kernel) ⟨Nat.le_of_ble_eq_true rfl, Nat.le_of_ble_eq_true rfl⟩) ⟨xr_blind, xr_recv (r := (RX7, TX7, 9)) hK hP 0 (by decide) me_M rfl, xr_pre hP hK⟩ rfl rfl hl.1 rfl (lv_room (Nat.le_of_ble_eq_true rfl)) dX7_find_105 ⟨Nat.le_of_ble_eq_true rfl, Nat.le_of_ble_eq_true rfl⟩) hS (fun _ _ h => h) (fun _ h => h) (fun r_17 _ t9 H locs ht hvm h hB _ _ hS => ?_)
      refine W.cs (cells' := 0) (slots' := 0) rfl rfl ?_
      have hP := x_th ht hB
      have hP : va_P (dC, dI) vwCl (xw 7 ad (mc ad ci r)) H := hP
      refine lv_aload_n hx hb dX7_find_108 rfl (lv_at hl 0 rfl) ?_
      refine lv_iload hx hb dX7_find_109 (lv_at hl 5 rfl) ?_
      refine lv_bipush (v := (11 : Int32)) hx hb dX7_find_111 (by decide) ?_
      refine va_calll (va_runV (As := [.int x6, .int (11 : Int32)]) (rest := [.long r_17]) ⟨hx, hb, C0.2.2.1, hown, hts⟩ (qX7_get l dC dI ad ci A hAD r x6 (11 : Int32) _ h) (cwV 2 hts gX7_find_X7_get rfl rfl rfl (by decide +kernel) ⟨Nat.le_of_ble_eq_true rfl, Nat.le_of_ble_eq_true rfl⟩) ⟨xr_blind, xr_recv (r := (RX7, TX7, 9)) hK hP 0 (by decide) me_M rfl, xr_pre hP hK⟩ rfl rfl hl.1 rfl (lv_room (Nat.le_of_ble_eq_true rfl)) dX7_find_113 ⟨Nat.le_of_ble_eq_true rfl, Nat.le_of_ble_eq_true rfl⟩) hS (fun _ _ h => h) (fun _ h => h) (fun r_18 _ t9 H locs ht hvm h hB _ _ hS => ?_)
      refine W.cs (cells' := 0) (slots' := 0) rfl rfl ?_
      have hP := x_th ht hB
      have hP : va_P (dC, dI) vwCl (xw 7 ad (mc ad ci r)) H := hP
      refine xr_if_lcmp_le (tgt := 142) hx hb dX7_find_116 dX7_find_117 (by decide) (fun c_19 => ?_) (fun c_19 => ?_)
      · have h := h.1 c_19
        exact hK142 x8 r _ _ _ h hP hS (lv_sub hl [0, 1, 2, 3, 4, 5, 6] rfl)
      · have h := h.2 c_19
        refine lv_aload_n hx hb dX7_find_120 rfl (lv_at hl 0 rfl) ?_
        refine xr_get (D := (dC, dI)) (C := RX7) (T := TX7) (N := 9) (v := .ref (ad 3)) hx hb hts wX7_find_c7 hown hK hP 0 (by decide) me_M rfl 3 (by decide) wX7_find_f16 rfl rfl dX7_find_121 ?_
        refine lv_iload hx hb dX7_find_124 (lv_at hl 6 rfl) ?_
        refine lv_aload_n hx hb dX7_find_126 rfl (lv_at hl 0 rfl) ?_
        refine xr_get (D := (dC, dI)) (C := RX7) (T := TX7) (N := 9) (v := .ref (ad 3)) hx hb hts wX7_find_c7 hown hK hP 0 (by decide) me_M rfl 3 (by decide) wX7_find_f16 rfl rfl dX7_find_127 ?_
        refine lv_iload hx hb dX7_find_130 (lv_at hl 6 rfl) ?_
        refine lv_iconst (v := (1 : Int32)) hx hb dX7_find_132 (by decide) ?_
        refine lv_isub hx hb dX7_find_133 ?_
        obtain ⟨g_20, h⟩ := h
        refine xr_iald (k := (x8 - (1 : Int32)).toNatClampNeg) hx hb hK hP 3 0 (by decide) me_gs rfl rfl g_20 dX7_find_134 ?_
        obtain ⟨g_21, h⟩ := h
        obtain ⟨r_22, er_22⟩ : ∃ z : MmV, z = m_wgs r (upd (m_gs r) (x8.toNatClampNeg) (m_gs r ((x8 - (1 : Int32)).toNatClampNeg))) := ⟨_, rfl⟩
        have h := h r_22 er_22
        refine xr_iast (k := x8.toNatClampNeg) (x := (m_gs r ((x8 - (1 : Int32)).toNatClampNeg))) (g := (mc ad ci r_22)) hx hb hK hP hAD hS 3 0 (by decide) me_gs rfl rfl g_21 dX7_find_135 (by rw [er_22]; exact mg_gs) (fun H locs hP hS => ?_)
        obtain ⟨x8_23, ex8_23⟩ : ∃ z : Int32, z = x8 + (-1) := ⟨_, rfl⟩
        have h := h x8_23 ex8_23
        refine lv_iinc (v := x8_23) (lv' := [(8, .int x8_23), (0, .ref (ad 0)), (1, .int x1), (2, .long x2), (4, .int x4), (5, .int x5), (6, .int x6)]) hx hb dX7_find_136 hl (k := 6) rfl (by rw [ex8_23]; rfl) (by decide) rfl (fun ls hl => ?_)
        refine lv_goto (tgt := 86) hx hb dX7_find_139 (by decide) ?_
        exact ih x8_23 r_22 _ _ _ h hP hS (lv_sub hl [1, 2, 3, 4, 5, 6, 0] rfl)
def LX7_find_9   (x1 : Int32) (x2 : Int64) (x4 : Int32) (x5 : Int32)  (post : MmV → Prop) : Nat → Int32 → MmV → Prop
  | 0, _, _ => False
  | n + 1, x6, r => (((200 : Int32) ≤ x6 → post r) ∧ (¬ (200 : Int32) ≤ x6 → (PX7_hasTick r x6 (fun (r_3 : Int32) => ((r_3 = 0 → ∀ x6_6 : Int32, x6_6 = x6 + 1 → LX7_find_9  x1 x2 x4 x5 post n x6_6 r) ∧ (¬ r_3 = 0 → (PX7_get r x6 (1 : Int32) (fun (r_7 : Int64) => ((r_7 = (x1.toInt64) → (PX7_get r x6 (3 : Int32) (fun (r_11 : Int64) => ((r_11 = x2 → ∀ x8_14 : Int32, x8_14 = (m_gc r) → (∃ n_30 : Nat, LX7_find_86  x1 x2 x4 x5 x6 (fun (x8_24 : Int32) (r_25 : MmV) => (vp_in x8_24 200 ∧ (∀ r_27 : MmV, r_27 = m_wgs r_25 (upd (m_gs r_25) (x8_24.toNatClampNeg) x6) → ∀ r_28 : MmV, r_28 = m_wgc r_27 ((m_gc r_27) + (1 : Int32)) → ∀ x6_29 : Int32, x6_29 = x6 + 1 → LX7_find_9  x1 x2 x4 x5 post n x6_29 r_28))) post n_30 x8_14 r)) ∧ (¬ r_11 = x2 → ((x4 = 0 → ∀ x6_33 : Int32, x6_33 = x6 + 1 → LX7_find_9  x1 x2 x4 x5 post n x6_33 r) ∧ (¬ x4 = 0 → (PX7_get r x6 (4 : Int32) (fun (r_34 : Int64) => ((x2 < r_34 → ∀ x6_37 : Int32, x6_37 = x6 + 1 → LX7_find_9  x1 x2 x4 x5 post n x6_37 r) ∧ (¬ x2 < r_34 → ∀ x8_39 : Int32, x8_39 = (m_gc r) → (∃ n_46 : Nat, LX7_find_86  x1 x2 x4 x5 x6 (fun (x8_40 : Int32) (r_41 : MmV) => (vp_in x8_40 200 ∧ (∀ r_43 : MmV, r_43 = m_wgs r_41 (upd (m_gs r_41) (x8_40.toNatClampNeg) x6) → ∀ r_44 : MmV, r_44 = m_wgc r_43 ((m_gc r_43) + (1 : Int32)) → ∀ x6_45 : Int32, x6_45 = x6 + 1 → LX7_find_9  x1 x2 x4 x5 post n x6_45 r_44))) post n_46 x8_39 r)))))))))))) ∧ (¬ r_7 = (x1.toInt64) → ∀ x6_10 : Int32, x6_10 = x6 + 1 → LX7_find_9  x1 x2 x4 x5 post n x6_10 r))))))))))
set_option maxHeartbeats 4000000 in
set_option maxRecDepth 100000 in
theorem kX7_find_9 {p : Program} {e : Env} {s : State} {m : MethodId} {args : Array Value} {below : List Frame} {meth : Method} {c : Code} (l : Launch) (dC : Nat → ClassId) (dI : Nat → Nat → Nat) (ad : Nat → Nat) (ci : Nat → ClassId) (A : Nat → Prop) (hAD : xw_D 7 ad A)  (x1 : Int32) (x2 : Int64) (x4 : Int32) (x5 : Int32)  (post : MmV → Prop) (C0 : xC p s m args meth c cX7_find 9 none RX7 wsX7_find (dC, dI) (xT ci)) : ∀ (n : Nat) (x6 : Int32) (r : MmV) (H : Heap) (locs : List Loc) (ls : Array Slot), LX7_find_9  x1 x2 x4 x5 post n x6 r → va_P (dC, dI) vwCl (xw 7 ad (mc ad ci r)) H → va_S A s.heap H locs → lv_has ls 9 [(0, .ref (ad 0)), (1, .int x1), (2, .long x2), (4, .int x4), (5, .int x5), (6, .int x6)] → W p l e rmX7_find s m args below meth c H locs 0 0 (MQ below (va_Qv (fun u : MmV => post u) (fun u t => va_P (dC, dI) vwCl (xw 7 ad (mc ad ci u)) t.heap) A) args s 0 0 A) (F0 m 9 ls []) := by
  obtain ⟨hx, hb, -, hr, hlocks, hown, hts, hK⟩ := id C0
  intro n
  induction n with
  | zero =>
    intro x6 r H locs ls h
    exact False.elim h
  | succ n ih =>
    intro x6 r H locs ls h hP hS hl
    rw [LX7_find_9] at h
    refine lv_iload hx hb dX7_find_9 (lv_at hl 5 rfl) ?_
    refine lv_sipush (v := (200 : Int32)) hx hb dX7_find_11 (by decide) ?_
    refine lv_icmp_ge (tgt := 167) hx hb dX7_find_14 (by decide) (fun c_2 => ?_) (fun c_2 => ?_)
    · have h := h.1 c_2
      exact W.vret hx hb hr (fun t ht hW => ⟨⟨r, rfl, h, x_ht ht hP⟩, hS.F ht⟩) hS.2.2 dX7_find_167
    · have h := h.2 c_2
      refine lv_aload_n hx hb dX7_find_17 rfl (lv_at hl 0 rfl) ?_
      refine lv_iload hx hb dX7_find_18 (lv_at hl 5 rfl) ?_
      refine va_calli (va_runV (As := [.int x6]) (rest := []) ⟨hx, hb, C0.2.2.1, hown, hts⟩ (qX7_hasTick l dC dI ad ci A hAD r x6 _ h) (cwV 1 hts gX7_find_X7_hasTick rfl rfl rfl (by decide +kernel) ⟨Nat.le_of_ble_eq_true rfl, Nat.le_of_ble_eq_true rfl⟩) ⟨xr_blind, xr_recv (r := (RX7, TX7, 9)) hK hP 0 (by decide) me_M rfl, xr_pre hP hK⟩ rfl rfl hl.1 rfl (lv_room (Nat.le_of_ble_eq_true rfl)) dX7_find_20 ⟨Nat.le_of_ble_eq_true rfl, Nat.le_of_ble_eq_true rfl⟩) hS (fun _ _ h => h) (fun _ h => h) (fun r_3 _ t9 H locs ht hvm h hB _ _ hS => ?_)
      refine W.cs (cells' := 0) (slots' := 0) rfl rfl ?_
      have hP := x_th ht hB
      have hP : va_P (dC, dI) vwCl (xw 7 ad (mc ad ci r)) H := hP
      refine lv_if_eq (tgt := 72) hx hb dX7_find_23 (by decide) (fun c_4 => ?_) (fun c_4 => ?_)
      · have h := h.1 c_4
        refine lv_iconst (v := (0 : Int32)) hx hb dX7_find_72 (by decide) ?_
        refine lv_istore (lv' := [(7, .int (0 : Int32)), (0, .ref (ad 0)), (1, .int x1), (2, .long x2), (4, .int x4), (5, .int x5), (6, .int x6)]) hx hb dX7_find_73 hl (by decide) rfl (fun ls hl => ?_)
        refine lv_iload hx hb dX7_find_75 (lv_at hl 0 rfl) ?_
        refine lv_if_eq (tgt := 161) hx hb dX7_find_77 (by decide) (fun c_5 => ?_) (fun c_5 => ?_)
        · obtain ⟨x6_6, ex6_6⟩ : ∃ z : Int32, z = x6 + 1 := ⟨_, rfl⟩
          have h := h x6_6 ex6_6
          refine lv_iinc (v := x6_6) (lv' := [(6, .int x6_6), (7, .int (0 : Int32)), (0, .ref (ad 0)), (1, .int x1), (2, .long x2), (4, .int x4), (5, .int x5)]) hx hb dX7_find_161 hl (k := 6) rfl (by rw [ex6_6]; rfl) (by decide) rfl (fun ls hl => ?_)
          refine lv_goto (tgt := 9) hx hb dX7_find_164 (by decide) ?_
          exact ih x6_6 r _ _ _ h hP hS (lv_sub hl [2, 3, 4, 5, 6, 0] rfl)
        · exact absurd c_5 (by decide)
      · have h := h.2 c_4
        refine lv_aload_n hx hb dX7_find_26 rfl (lv_at hl 0 rfl) ?_
        refine lv_iload hx hb dX7_find_27 (lv_at hl 5 rfl) ?_
        refine lv_iconst (v := (1 : Int32)) hx hb dX7_find_29 (by decide) ?_
        refine va_calll (va_runV (As := [.int x6, .int (1 : Int32)]) (rest := []) ⟨hx, hb, C0.2.2.1, hown, hts⟩ (qX7_get l dC dI ad ci A hAD r x6 (1 : Int32) _ h) (cwV 2 hts gX7_find_X7_get rfl rfl rfl (by decide +kernel) ⟨Nat.le_of_ble_eq_true rfl, Nat.le_of_ble_eq_true rfl⟩) ⟨xr_blind, xr_recv (r := (RX7, TX7, 9)) hK hP 0 (by decide) me_M rfl, xr_pre hP hK⟩ rfl rfl hl.1 rfl (lv_room (Nat.le_of_ble_eq_true rfl)) dX7_find_30 ⟨Nat.le_of_ble_eq_true rfl, Nat.le_of_ble_eq_true rfl⟩) hS (fun _ _ h => h) (fun _ h => h) (fun r_7 _ t9 H locs ht hvm h hB _ _ hS => ?_)
        refine W.cs (cells' := 0) (slots' := 0) rfl rfl ?_
        have hP := x_th ht hB
        have hP : va_P (dC, dI) vwCl (xw 7 ad (mc ad ci r)) H := hP
        refine lv_iload_n hx hb dX7_find_33 rfl (lv_at hl 1 rfl) ?_
        refine lv_i2l hx hb dX7_find_34 rfl ?_
        refine xr_if_lcmp_ne (tgt := 72) hx hb dX7_find_35 dX7_find_36 (by decide) (fun c_8 => ?_) (fun c_8 => ?_)
        · have h := h.2 c_8
          refine lv_iconst (v := (0 : Int32)) hx hb dX7_find_72 (by decide) ?_
          refine lv_istore (lv' := [(7, .int (0 : Int32)), (0, .ref (ad 0)), (1, .int x1), (2, .long x2), (4, .int x4), (5, .int x5), (6, .int x6)]) hx hb dX7_find_73 hl (by decide) rfl (fun ls hl => ?_)
          refine lv_iload hx hb dX7_find_75 (lv_at hl 0 rfl) ?_
          refine lv_if_eq (tgt := 161) hx hb dX7_find_77 (by decide) (fun c_9 => ?_) (fun c_9 => ?_)
          · obtain ⟨x6_10, ex6_10⟩ : ∃ z : Int32, z = x6 + 1 := ⟨_, rfl⟩
            have h := h x6_10 ex6_10
            refine lv_iinc (v := x6_10) (lv' := [(6, .int x6_10), (7, .int (0 : Int32)), (0, .ref (ad 0)), (1, .int x1), (2, .long x2), (4, .int x4), (5, .int x5)]) hx hb dX7_find_161 hl (k := 6) rfl (by rw [ex6_10]; rfl) (by decide) rfl (fun ls hl => ?_)
            refine lv_goto (tgt := 9) hx hb dX7_find_164 (by decide) ?_
            exact ih x6_10 r _ _ _ h hP hS (lv_sub hl [2, 3, 4, 5, 6, 0] rfl)
          · exact absurd c_9 (by decide)
        · have h := h.1 c_8
          refine lv_aload_n hx hb dX7_find_39 rfl (lv_at hl 0 rfl) ?_
          refine lv_iload hx hb dX7_find_40 (lv_at hl 5 rfl) ?_
          refine lv_iconst (v := (3 : Int32)) hx hb dX7_find_42 (by decide) ?_
          refine va_calll (va_runV (As := [.int x6, .int (3 : Int32)]) (rest := []) ⟨hx, hb, C0.2.2.1, hown, hts⟩ (qX7_get l dC dI ad ci A hAD r x6 (3 : Int32) _ h) (cwV 2 hts gX7_find_X7_get rfl rfl rfl (by decide +kernel) ⟨Nat.le_of_ble_eq_true rfl, Nat.le_of_ble_eq_true rfl⟩) ⟨xr_blind, xr_recv (r := (RX7, TX7, 9)) hK hP 0 (by decide) me_M rfl, xr_pre hP hK⟩ rfl rfl hl.1 rfl (lv_room (Nat.le_of_ble_eq_true rfl)) dX7_find_43 ⟨Nat.le_of_ble_eq_true rfl, Nat.le_of_ble_eq_true rfl⟩) hS (fun _ _ h => h) (fun _ h => h) (fun r_11 _ t9 H locs ht hvm h hB _ _ hS => ?_)
          refine W.cs (cells' := 0) (slots' := 0) rfl rfl ?_
          have hP := x_th ht hB
          have hP : va_P (dC, dI) vwCl (xw 7 ad (mc ad ci r)) H := hP
          refine lv_lload_n hx hb dX7_find_46 rfl (lv_at hl 2 rfl) ?_
          refine xr_if_lcmp_eq (tgt := 68) hx hb dX7_find_47 dX7_find_48 (by decide) (fun c_12 => ?_) (fun c_12 => ?_)
          · have h := h.1 c_12
            refine lv_iconst (v := (1 : Int32)) hx hb dX7_find_68 (by decide) ?_
            refine lv_goto (tgt := 73) hx hb dX7_find_69 (by decide) ?_
            refine lv_istore (lv' := [(7, .int (1 : Int32)), (0, .ref (ad 0)), (1, .int x1), (2, .long x2), (4, .int x4), (5, .int x5), (6, .int x6)]) hx hb dX7_find_73 hl (by decide) rfl (fun ls hl => ?_)
            refine lv_iload hx hb dX7_find_75 (lv_at hl 0 rfl) ?_
            refine lv_if_eq (tgt := 161) hx hb dX7_find_77 (by decide) (fun c_13 => ?_) (fun c_13 => ?_)
            · exact absurd c_13 (by decide)
            · refine lv_aload_n hx hb dX7_find_80 rfl (lv_at hl 1 rfl) ?_
              refine xr_get (D := (dC, dI)) (C := RX7) (T := TX7) (N := 9) (v := .int (m_gc r)) hx hb hts wX7_find_c7 hown hK hP 0 (by decide) me_M rfl 4 (by decide) wX7_find_f124 rfl rfl dX7_find_81 ?_
              refine lv_topi (fun x8_14 ex8_14 => ?_)
              have h := h x8_14 ex8_14
              refine lv_istore (lv' := [(8, .int x8_14), (7, .int (1 : Int32)), (0, .ref (ad 0)), (1, .int x1), (2, .long x2), (4, .int x4), (5, .int x5), (6, .int x6)]) hx hb dX7_find_84 hl (by decide) rfl (fun ls hl => ?_)
              obtain ⟨n_30, h⟩ := h
              refine kX7_find_86 l dC dI ad ci A hAD    x1 x2 x4 x5 x6 _ post C0 ?_ n_30 x8_14 r _ _ _ h hP hS (lv_sub hl [2, 3, 4, 5, 6, 7, 0] rfl)
              · intro x8_24 r_25 H locs ls h hP hS hl
                refine lv_aload_n hx hb dX7_find_142 rfl (lv_at hl 0 rfl) ?_
                refine xr_get (D := (dC, dI)) (C := RX7) (T := TX7) (N := 9) (v := .ref (ad 3)) hx hb hts wX7_find_c7 hown hK hP 0 (by decide) me_M rfl 3 (by decide) wX7_find_f16 rfl rfl dX7_find_143 ?_
                refine lv_iload hx hb dX7_find_146 (lv_at hl 6 rfl) ?_
                refine lv_iload hx hb dX7_find_148 (lv_at hl 5 rfl) ?_
                obtain ⟨g_26, h⟩ := h
                obtain ⟨r_27, er_27⟩ : ∃ z : MmV, z = m_wgs r_25 (upd (m_gs r_25) (x8_24.toNatClampNeg) x6) := ⟨_, rfl⟩
                have h := h r_27 er_27
                refine xr_iast (k := x8_24.toNatClampNeg) (x := x6) (g := (mc ad ci r_27)) hx hb hK hP hAD hS 3 0 (by decide) me_gs rfl rfl g_26 dX7_find_150 (by rw [er_27]; exact mg_gs) (fun H locs hP hS => ?_)
                refine lv_aload_n hx hb dX7_find_151 rfl (lv_at hl 0 rfl) ?_
                refine lv_dup hx hb dX7_find_152 rfl ?_
                refine xr_get (D := (dC, dI)) (C := RX7) (T := TX7) (N := 9) (v := .int (m_gc r_27)) hx hb hts wX7_find_c7 hown hK hP 0 (by decide) me_M rfl 4 (by decide) wX7_find_f124 rfl rfl dX7_find_153 ?_
                refine lv_iconst (v := (1 : Int32)) hx hb dX7_find_156 (by decide) ?_
                refine lv_iadd hx hb dX7_find_157 ?_
                obtain ⟨r_28, er_28⟩ : ∃ z : MmV, z = m_wgc r_27 ((m_gc r_27) + (1 : Int32)) := ⟨_, rfl⟩
                have h := h r_28 er_28
                refine xr_put (D := (dC, dI)) (C := RX7) (T := TX7) (N := 9) (ty := .int) (v := .int ((m_gc r_27) + (1 : Int32))) (g := (mc ad ci r_28)) hx hb hts wX7_find_c7 tyX7 tyX7_ok nmX7 hown hK hP hAD hS 0 (by decide) me_M rfl 4 (by decide) wX7_find_f124 rfl rfl (by decide +kernel) rfl rfl (Nat.le_of_ble_eq_true rfl) dX7_find_158 (by rw [er_28]; exact mg_gc) (fun H locs hP hS => ?_)
                obtain ⟨x6_29, ex6_29⟩ : ∃ z : Int32, z = x6 + 1 := ⟨_, rfl⟩
                have h := h x6_29 ex6_29
                refine lv_iinc (v := x6_29) (lv' := [(6, .int x6_29), (0, .ref (ad 0)), (1, .int x1), (2, .long x2), (4, .int x4), (5, .int x5), (8, .int x8_24)]) hx hb dX7_find_161 hl (k := 5) rfl (by rw [ex6_29]; rfl) (by decide) rfl (fun ls hl => ?_)
                refine lv_goto (tgt := 9) hx hb dX7_find_164 (by decide) ?_
                exact ih x6_29 r_28 _ _ _ h hP hS (lv_sub hl [1, 2, 3, 4, 5, 0] rfl)
          · have h := h.2 c_12
            refine lv_iload hx hb dX7_find_51 (lv_at hl 3 rfl) ?_
            refine lv_if_eq (tgt := 72) hx hb dX7_find_53 (by decide) (fun c_31 => ?_) (fun c_31 => ?_)
            · have h := h.1 c_31
              refine lv_iconst (v := (0 : Int32)) hx hb dX7_find_72 (by decide) ?_
              refine lv_istore (lv' := [(7, .int (0 : Int32)), (0, .ref (ad 0)), (1, .int x1), (2, .long x2), (4, .int x4), (5, .int x5), (6, .int x6)]) hx hb dX7_find_73 hl (by decide) rfl (fun ls hl => ?_)
              refine lv_iload hx hb dX7_find_75 (lv_at hl 0 rfl) ?_
              refine lv_if_eq (tgt := 161) hx hb dX7_find_77 (by decide) (fun c_32 => ?_) (fun c_32 => ?_)
              · obtain ⟨x6_33, ex6_33⟩ : ∃ z : Int32, z = x6 + 1 := ⟨_, rfl⟩
                have h := h x6_33 ex6_33
                refine lv_iinc (v := x6_33) (lv' := [(6, .int x6_33), (7, .int (0 : Int32)), (0, .ref (ad 0)), (1, .int x1), (2, .long x2), (4, .int x4), (5, .int x5)]) hx hb dX7_find_161 hl (k := 6) rfl (by rw [ex6_33]; rfl) (by decide) rfl (fun ls hl => ?_)
                refine lv_goto (tgt := 9) hx hb dX7_find_164 (by decide) ?_
                exact ih x6_33 r _ _ _ h hP hS (lv_sub hl [2, 3, 4, 5, 6, 0] rfl)
              · exact absurd c_32 (by decide)
            · have h := h.2 c_31
              refine lv_aload_n hx hb dX7_find_56 rfl (lv_at hl 0 rfl) ?_
              refine lv_iload hx hb dX7_find_57 (lv_at hl 5 rfl) ?_
              refine lv_iconst (v := (4 : Int32)) hx hb dX7_find_59 (by decide) ?_
              refine va_calll (va_runV (As := [.int x6, .int (4 : Int32)]) (rest := []) ⟨hx, hb, C0.2.2.1, hown, hts⟩ (qX7_get l dC dI ad ci A hAD r x6 (4 : Int32) _ h) (cwV 2 hts gX7_find_X7_get rfl rfl rfl (by decide +kernel) ⟨Nat.le_of_ble_eq_true rfl, Nat.le_of_ble_eq_true rfl⟩) ⟨xr_blind, xr_recv (r := (RX7, TX7, 9)) hK hP 0 (by decide) me_M rfl, xr_pre hP hK⟩ rfl rfl hl.1 rfl (lv_room (Nat.le_of_ble_eq_true rfl)) dX7_find_60 ⟨Nat.le_of_ble_eq_true rfl, Nat.le_of_ble_eq_true rfl⟩) hS (fun _ _ h => h) (fun _ h => h) (fun r_34 _ t9 H locs ht hvm h hB _ _ hS => ?_)
              refine W.cs (cells' := 0) (slots' := 0) rfl rfl ?_
              have hP := x_th ht hB
              have hP : va_P (dC, dI) vwCl (xw 7 ad (mc ad ci r)) H := hP
              refine lv_lload_n hx hb dX7_find_63 rfl (lv_at hl 2 rfl) ?_
              refine xr_if_lcmp_gt (tgt := 72) hx hb dX7_find_64 dX7_find_65 (by decide) (fun c_35 => ?_) (fun c_35 => ?_)
              · have h := h.1 c_35
                refine lv_iconst (v := (0 : Int32)) hx hb dX7_find_72 (by decide) ?_
                refine lv_istore (lv' := [(7, .int (0 : Int32)), (0, .ref (ad 0)), (1, .int x1), (2, .long x2), (4, .int x4), (5, .int x5), (6, .int x6)]) hx hb dX7_find_73 hl (by decide) rfl (fun ls hl => ?_)
                refine lv_iload hx hb dX7_find_75 (lv_at hl 0 rfl) ?_
                refine lv_if_eq (tgt := 161) hx hb dX7_find_77 (by decide) (fun c_36 => ?_) (fun c_36 => ?_)
                · obtain ⟨x6_37, ex6_37⟩ : ∃ z : Int32, z = x6 + 1 := ⟨_, rfl⟩
                  have h := h x6_37 ex6_37
                  refine lv_iinc (v := x6_37) (lv' := [(6, .int x6_37), (7, .int (0 : Int32)), (0, .ref (ad 0)), (1, .int x1), (2, .long x2), (4, .int x4), (5, .int x5)]) hx hb dX7_find_161 hl (k := 6) rfl (by rw [ex6_37]; rfl) (by decide) rfl (fun ls hl => ?_)
                  refine lv_goto (tgt := 9) hx hb dX7_find_164 (by decide) ?_
                  exact ih x6_37 r _ _ _ h hP hS (lv_sub hl [2, 3, 4, 5, 6, 0] rfl)
                · exact absurd c_36 (by decide)
              · have h := h.2 c_35
                refine lv_iconst (v := (1 : Int32)) hx hb dX7_find_68 (by decide) ?_
                refine lv_goto (tgt := 73) hx hb dX7_find_69 (by decide) ?_
                refine lv_istore (lv' := [(7, .int (1 : Int32)), (0, .ref (ad 0)), (1, .int x1), (2, .long x2), (4, .int x4), (5, .int x5), (6, .int x6)]) hx hb dX7_find_73 hl (by decide) rfl (fun ls hl => ?_)
                refine lv_iload hx hb dX7_find_75 (lv_at hl 0 rfl) ?_
                refine lv_if_eq (tgt := 161) hx hb dX7_find_77 (by decide) (fun c_38 => ?_) (fun c_38 => ?_)
                · exact absurd c_38 (by decide)
                · refine lv_aload_n hx hb dX7_find_80 rfl (lv_at hl 1 rfl) ?_
                  refine xr_get (D := (dC, dI)) (C := RX7) (T := TX7) (N := 9) (v := .int (m_gc r)) hx hb hts wX7_find_c7 hown hK hP 0 (by decide) me_M rfl 4 (by decide) wX7_find_f124 rfl rfl dX7_find_81 ?_
                  refine lv_topi (fun x8_39 ex8_39 => ?_)
                  have h := h x8_39 ex8_39
                  refine lv_istore (lv' := [(8, .int x8_39), (7, .int (1 : Int32)), (0, .ref (ad 0)), (1, .int x1), (2, .long x2), (4, .int x4), (5, .int x5), (6, .int x6)]) hx hb dX7_find_84 hl (by decide) rfl (fun ls hl => ?_)
                  obtain ⟨n_46, h⟩ := h
                  refine kX7_find_86 l dC dI ad ci A hAD    x1 x2 x4 x5 x6 _ post C0 ?_ n_46 x8_39 r _ _ _ h hP hS (lv_sub hl [2, 3, 4, 5, 6, 7, 0] rfl)
                  · intro x8_40 r_41 H locs ls h hP hS hl
                    refine lv_aload_n hx hb dX7_find_142 rfl (lv_at hl 0 rfl) ?_
                    refine xr_get (D := (dC, dI)) (C := RX7) (T := TX7) (N := 9) (v := .ref (ad 3)) hx hb hts wX7_find_c7 hown hK hP 0 (by decide) me_M rfl 3 (by decide) wX7_find_f16 rfl rfl dX7_find_143 ?_
                    refine lv_iload hx hb dX7_find_146 (lv_at hl 6 rfl) ?_
                    refine lv_iload hx hb dX7_find_148 (lv_at hl 5 rfl) ?_
                    obtain ⟨g_42, h⟩ := h
                    obtain ⟨r_43, er_43⟩ : ∃ z : MmV, z = m_wgs r_41 (upd (m_gs r_41) (x8_40.toNatClampNeg) x6) := ⟨_, rfl⟩
                    have h := h r_43 er_43
                    refine xr_iast (k := x8_40.toNatClampNeg) (x := x6) (g := (mc ad ci r_43)) hx hb hK hP hAD hS 3 0 (by decide) me_gs rfl rfl g_42 dX7_find_150 (by rw [er_43]; exact mg_gs) (fun H locs hP hS => ?_)
                    refine lv_aload_n hx hb dX7_find_151 rfl (lv_at hl 0 rfl) ?_
                    refine lv_dup hx hb dX7_find_152 rfl ?_
                    refine xr_get (D := (dC, dI)) (C := RX7) (T := TX7) (N := 9) (v := .int (m_gc r_43)) hx hb hts wX7_find_c7 hown hK hP 0 (by decide) me_M rfl 4 (by decide) wX7_find_f124 rfl rfl dX7_find_153 ?_
                    refine lv_iconst (v := (1 : Int32)) hx hb dX7_find_156 (by decide) ?_
                    refine lv_iadd hx hb dX7_find_157 ?_
                    obtain ⟨r_44, er_44⟩ : ∃ z : MmV, z = m_wgc r_43 ((m_gc r_43) + (1 : Int32)) := ⟨_, rfl⟩
                    have h := h r_44 er_44
                    refine xr_put (D := (dC, dI)) (C := RX7) (T := TX7) (N := 9) (ty := .int) (v := .int ((m_gc r_43) + (1 : Int32))) (g := (mc ad ci r_44)) hx hb hts wX7_find_c7 tyX7 tyX7_ok nmX7 hown hK hP hAD hS 0 (by decide) me_M rfl 4 (by decide) wX7_find_f124 rfl rfl (by decide +kernel) rfl rfl (Nat.le_of_ble_eq_true rfl) dX7_find_158 (by rw [er_44]; exact mg_gc) (fun H locs hP hS => ?_)
                    obtain ⟨x6_45, ex6_45⟩ : ∃ z : Int32, z = x6 + 1 := ⟨_, rfl⟩
                    have h := h x6_45 ex6_45
                    refine lv_iinc (v := x6_45) (lv' := [(6, .int x6_45), (0, .ref (ad 0)), (1, .int x1), (2, .long x2), (4, .int x4), (5, .int x5), (8, .int x8_40)]) hx hb dX7_find_161 hl (k := 5) rfl (by rw [ex6_45]; rfl) (by decide) rfl (fun ls hl => ?_)
                    refine lv_goto (tgt := 9) hx hb dX7_find_164 (by decide) ?_
                    exact ih x6_45 r_44 _ _ _ h hP hS (lv_sub hl [1, 2, 3, 4, 5, 0] rfl)
def PX7_find  (r : MmV) (x1 : Int32) (x2 : Int64) (x4 : Int32) (post : MmV → Prop) : Prop :=
  ∀ x5_1 : Int32, x5_1 = (m_gc r) → (∃ n_47 : Nat, LX7_find_9  x1 x2 x4 x5_1  post n_47 (0 : Int32) r)
set_option maxHeartbeats 4000000 in
set_option maxRecDepth 100000 in
theorem qX7_find (l : Launch) (dC : Nat → ClassId) (dI : Nat → Nat → Nat) (ad : Nat → Nat) (ci : Nat → ClassId) (A : Nat → Prop) (hAD : xw_D 7 ad A) (r : MmV) (x1 : Int32) (x2 : Int64) (x4 : Int32) (post : MmV → Prop) (h : PX7_find r x1 x2 x4 post) : Met l yX7_find wsX7_find rmX7_find (va_Pc [.ref (ad 0), .int x1, .long x2, .int x4] (fun U => va_P (dC, dI) vwCl (xw 7 ad (mc ad ci r)) U.heap ∧ va_K (dC, dI) vwCl (xT ci) U)) (va_Qv (fun u : MmV => post u) (fun u t => va_P (dC, dI) vwCl (xw 7 ad (mc ad ci u)) t.heap) A) 0 0 A := by
  refine Met.ofW (cc := cX7_find) (maxL := 9) (ret := none) (by decide) rfl ?_
  intro p e s m args below meth c s₁ B hml hv
  obtain ⟨eargs, hP, hK⟩ := hv
  have C0 : xC p s m args meth c cX7_find 9 none RX7 wsX7_find (dC, dI) (xT ci) := ⟨B.exec, B.bytes, hml, B.returns, B.notSynchronized, findClass_of_methodNamed B.named, atoms_spec (ws := wsX7_find) B.pre, hK⟩
  obtain ⟨hx, hb, -, hr, hlocks, hown, hts, -⟩ := id C0
  have hS : va_S A s.heap s.heap [] := va_S.rf
  have hl := lv_entry ([.ref (ad 0), .int x1, .long x2, .int x4]) (n := 9) (Nat.le_of_ble_eq_true rfl)
  have ef : entryFrame m args 9 = entryFrame m ([.ref (ad 0), .int x1, .long x2, .int x4] : List Value).toArray 9 := by rw [eargs]
  rw [ef, lg_entry_eq]
  generalize (lg_sl ([.ref (ad 0), .int x1, .long x2, .int x4]) ++ List.replicate (9 - (lg_sl ([.ref (ad 0), .int x1, .long x2, .int x4])).length) Slot.unset).toArray = ls at hl ⊢
  have hl : lv_has ls 9 [(0, .ref (ad 0)), (1, .int x1), (2, .long x2), (4, .int x4)] := hl
  have hP : va_P (dC, dI) vwCl (xw 7 ad (mc ad ci r)) s.heap := hP
  unfold PX7_find at h
  refine lv_aload_n hx hb dX7_find_0 rfl (lv_at hl 0 rfl) ?_
  refine xr_get (D := (dC, dI)) (C := RX7) (T := TX7) (N := 9) (v := .int (m_gc r)) hx hb hts wX7_find_c7 hown hK hP 0 (by decide) me_M rfl 4 (by decide) wX7_find_f124 rfl rfl dX7_find_1 ?_
  refine lv_topi (fun x5_1 ex5_1 => ?_)
  have h := h x5_1 ex5_1
  refine lv_istore (lv' := [(5, .int x5_1), (0, .ref (ad 0)), (1, .int x1), (2, .long x2), (4, .int x4)]) hx hb dX7_find_4 hl (by decide) rfl (fun ls hl => ?_)
  refine lv_iconst (v := (0 : Int32)) hx hb dX7_find_6 (by decide) ?_
  refine lv_istore (lv' := [(6, .int (0 : Int32)), (5, .int x5_1), (0, .ref (ad 0)), (1, .int x1), (2, .long x2), (4, .int x4)]) hx hb dX7_find_7 hl (by decide) rfl (fun ls hl => ?_)
  obtain ⟨n_47, h⟩ := h
  exact kX7_find_9 l dC dI ad ci A hAD    x1 x2 x4 x5_1  post C0  n_47 (0 : Int32) r _ _ _ h hP hS (lv_sub hl [2, 3, 4, 5, 1, 0] rfl)
abbrev rmX7_findAll : Room := { frames := 4, cells := 0, slots := 0, locals := 95 }
theorem wX7_findAll_c7 : ∀ w ∈ u_ws RX7 TX7 9, w ∈ wsX7_findAll := by decide +kernel
theorem wX7_findAll_f124 : Cond.fieldLink RX7 124 "DueWheelsModel" "goerCount" "I" ∈ wsX7_findAll := by decide +kernel
def PX7_findAll  (r : MmV) (x1 : Int64) (post : MmV → Prop) : Prop :=
  ∀ r_1 : MmV, r_1 = m_wgc r (0 : Int32) → (PX7_find r_1 (0 : Int32) x1 (0 : Int32) (fun (r_2 : MmV) => (PX7_find r_2 (1 : Int32) x1 (0 : Int32) (fun (r_3 : MmV) => (PX7_find r_3 (3 : Int32) x1 (0 : Int32) (fun (r_4 : MmV) => (PX7_find r_4 (4 : Int32) x1 (0 : Int32) (fun (r_5 : MmV) => (((m_gc r_5) ≤ 0 → (PX7_find r_5 (2 : Int32) x1 (0 : Int32) (fun (r_7 : MmV) => post r_7))) ∧ (¬ (m_gc r_5) ≤ 0 → (PX7_find r_5 (2 : Int32) x1 (1 : Int32) (fun (r_8 : MmV) => post r_8))))))))))))
set_option maxHeartbeats 4000000 in
set_option maxRecDepth 100000 in
theorem qX7_findAll (l : Launch) (dC : Nat → ClassId) (dI : Nat → Nat → Nat) (ad : Nat → Nat) (ci : Nat → ClassId) (A : Nat → Prop) (hAD : xw_D 7 ad A) (r : MmV) (x1 : Int64) (post : MmV → Prop) (h : PX7_findAll r x1 post) : Met l yX7_findAll wsX7_findAll rmX7_findAll (va_Pc [.ref (ad 0), .long x1] (fun U => va_P (dC, dI) vwCl (xw 7 ad (mc ad ci r)) U.heap ∧ va_K (dC, dI) vwCl (xT ci) U)) (va_Qv (fun u : MmV => post u) (fun u t => va_P (dC, dI) vwCl (xw 7 ad (mc ad ci u)) t.heap) A) 0 0 A := by
  refine Met.ofW (cc := cX7_findAll) (maxL := 3) (ret := none) (by decide) rfl ?_
  intro p e s m args below meth c s₁ B hml hv
  obtain ⟨eargs, hP, hK⟩ := hv
  have C0 : xC p s m args meth c cX7_findAll 3 none RX7 wsX7_findAll (dC, dI) (xT ci) := ⟨B.exec, B.bytes, hml, B.returns, B.notSynchronized, findClass_of_methodNamed B.named, atoms_spec (ws := wsX7_findAll) B.pre, hK⟩
  obtain ⟨hx, hb, -, hr, hlocks, hown, hts, -⟩ := id C0
  have hS : va_S A s.heap s.heap [] := va_S.rf
  have hl := lv_entry ([.ref (ad 0), .long x1]) (n := 3) (Nat.le_of_ble_eq_true rfl)
  have ef : entryFrame m args 3 = entryFrame m ([.ref (ad 0), .long x1] : List Value).toArray 3 := by rw [eargs]
  rw [ef, lg_entry_eq]
  generalize (lg_sl ([.ref (ad 0), .long x1]) ++ List.replicate (3 - (lg_sl ([.ref (ad 0), .long x1])).length) Slot.unset).toArray = ls at hl ⊢
  have hl : lv_has ls 3 [(0, .ref (ad 0)), (1, .long x1)] := hl
  have hP : va_P (dC, dI) vwCl (xw 7 ad (mc ad ci r)) s.heap := hP
  unfold PX7_findAll at h
  refine lv_aload_n hx hb dX7_findAll_0 rfl (lv_at hl 0 rfl) ?_
  refine lv_iconst (v := (0 : Int32)) hx hb dX7_findAll_1 (by decide) ?_
  obtain ⟨r_1, er_1⟩ : ∃ z : MmV, z = m_wgc r (0 : Int32) := ⟨_, rfl⟩
  have h := h r_1 er_1
  refine xr_put (D := (dC, dI)) (C := RX7) (T := TX7) (N := 9) (ty := .int) (v := .int (0 : Int32)) (g := (mc ad ci r_1)) hx hb hts wX7_findAll_c7 tyX7 tyX7_ok nmX7 hown hK hP hAD hS 0 (by decide) me_M rfl 4 (by decide) wX7_findAll_f124 rfl rfl (by decide +kernel) rfl rfl (Nat.le_of_ble_eq_true rfl) dX7_findAll_2 (by rw [er_1]; exact mg_gc) (fun H locs hP hS => ?_)
  refine lv_aload_n hx hb dX7_findAll_5 rfl (lv_at hl 0 rfl) ?_
  refine lv_iconst (v := (0 : Int32)) hx hb dX7_findAll_6 (by decide) ?_
  refine lv_lload_n hx hb dX7_findAll_7 rfl (lv_at hl 1 rfl) ?_
  refine lv_iconst (v := (0 : Int32)) hx hb dX7_findAll_8 (by decide) ?_
  refine va_callv (va_runV (As := [.int (0 : Int32), .long x1, .int (0 : Int32)]) (rest := []) ⟨hx, hb, C0.2.2.1, hown, hts⟩ (qX7_find l dC dI ad ci A hAD r_1 (0 : Int32) x1 (0 : Int32) _ h) (cwV 3 hts gX7_findAll_X7_find rfl rfl rfl (by decide +kernel) ⟨Nat.le_of_ble_eq_true rfl, Nat.le_of_ble_eq_true rfl⟩) ⟨xr_blind, xr_recv (r := (RX7, TX7, 9)) hK hP 0 (by decide) me_M rfl, xr_pre hP hK⟩ rfl rfl hl.1 rfl (lv_room (Nat.le_of_ble_eq_true rfl)) dX7_findAll_9 ⟨Nat.le_of_ble_eq_true rfl, Nat.le_of_ble_eq_true rfl⟩) hS (fun _ _ h => h) (fun _ h => h) (fun r_2 t9 H locs ht hvm h hB _ _ hS => ?_)
  refine W.cs (cells' := 0) (slots' := 0) rfl rfl ?_
  have hP := x_th ht hB
  have hP : va_P (dC, dI) vwCl (xw 7 ad (mc ad ci r_2)) H := hP
  refine lv_aload_n hx hb dX7_findAll_12 rfl (lv_at hl 0 rfl) ?_
  refine lv_iconst (v := (1 : Int32)) hx hb dX7_findAll_13 (by decide) ?_
  refine lv_lload_n hx hb dX7_findAll_14 rfl (lv_at hl 1 rfl) ?_
  refine lv_iconst (v := (0 : Int32)) hx hb dX7_findAll_15 (by decide) ?_
  refine va_callv (va_runV (As := [.int (1 : Int32), .long x1, .int (0 : Int32)]) (rest := []) ⟨hx, hb, C0.2.2.1, hown, hts⟩ (qX7_find l dC dI ad ci A hAD r_2 (1 : Int32) x1 (0 : Int32) _ h) (cwV 3 hts gX7_findAll_X7_find rfl rfl rfl (by decide +kernel) ⟨Nat.le_of_ble_eq_true rfl, Nat.le_of_ble_eq_true rfl⟩) ⟨xr_blind, xr_recv (r := (RX7, TX7, 9)) hK hP 0 (by decide) me_M rfl, xr_pre hP hK⟩ rfl rfl hl.1 rfl (lv_room (Nat.le_of_ble_eq_true rfl)) dX7_findAll_16 ⟨Nat.le_of_ble_eq_true rfl, Nat.le_of_ble_eq_true rfl⟩) hS (fun _ _ h => h) (fun _ h => h) (fun r_3 t9 H locs ht hvm h hB _ _ hS => ?_)
  refine W.cs (cells' := 0) (slots' := 0) rfl rfl ?_
  have hP := x_th ht hB
  have hP : va_P (dC, dI) vwCl (xw 7 ad (mc ad ci r_3)) H := hP
  refine lv_aload_n hx hb dX7_findAll_19 rfl (lv_at hl 0 rfl) ?_
  refine lv_iconst (v := (3 : Int32)) hx hb dX7_findAll_20 (by decide) ?_
  refine lv_lload_n hx hb dX7_findAll_21 rfl (lv_at hl 1 rfl) ?_
  refine lv_iconst (v := (0 : Int32)) hx hb dX7_findAll_22 (by decide) ?_
  refine va_callv (va_runV (As := [.int (3 : Int32), .long x1, .int (0 : Int32)]) (rest := []) ⟨hx, hb, C0.2.2.1, hown, hts⟩ (qX7_find l dC dI ad ci A hAD r_3 (3 : Int32) x1 (0 : Int32) _ h) (cwV 3 hts gX7_findAll_X7_find rfl rfl rfl (by decide +kernel) ⟨Nat.le_of_ble_eq_true rfl, Nat.le_of_ble_eq_true rfl⟩) ⟨xr_blind, xr_recv (r := (RX7, TX7, 9)) hK hP 0 (by decide) me_M rfl, xr_pre hP hK⟩ rfl rfl hl.1 rfl (lv_room (Nat.le_of_ble_eq_true rfl)) dX7_findAll_23 ⟨Nat.le_of_ble_eq_true rfl, Nat.le_of_ble_eq_true rfl⟩) hS (fun _ _ h => h) (fun _ h => h) (fun r_4 t9 H locs ht hvm h hB _ _ hS => ?_)
  refine W.cs (cells' := 0) (slots' := 0) rfl rfl ?_
  have hP := x_th ht hB
  have hP : va_P (dC, dI) vwCl (xw 7 ad (mc ad ci r_4)) H := hP
  refine lv_aload_n hx hb dX7_findAll_26 rfl (lv_at hl 0 rfl) ?_
  refine lv_iconst (v := (4 : Int32)) hx hb dX7_findAll_27 (by decide) ?_
  refine lv_lload_n hx hb dX7_findAll_28 rfl (lv_at hl 1 rfl) ?_
  refine lv_iconst (v := (0 : Int32)) hx hb dX7_findAll_29 (by decide) ?_
  refine va_callv (va_runV (As := [.int (4 : Int32), .long x1, .int (0 : Int32)]) (rest := []) ⟨hx, hb, C0.2.2.1, hown, hts⟩ (qX7_find l dC dI ad ci A hAD r_4 (4 : Int32) x1 (0 : Int32) _ h) (cwV 3 hts gX7_findAll_X7_find rfl rfl rfl (by decide +kernel) ⟨Nat.le_of_ble_eq_true rfl, Nat.le_of_ble_eq_true rfl⟩) ⟨xr_blind, xr_recv (r := (RX7, TX7, 9)) hK hP 0 (by decide) me_M rfl, xr_pre hP hK⟩ rfl rfl hl.1 rfl (lv_room (Nat.le_of_ble_eq_true rfl)) dX7_findAll_30 ⟨Nat.le_of_ble_eq_true rfl, Nat.le_of_ble_eq_true rfl⟩) hS (fun _ _ h => h) (fun _ h => h) (fun r_5 t9 H locs ht hvm h hB _ _ hS => ?_)
  refine W.cs (cells' := 0) (slots' := 0) rfl rfl ?_
  have hP := x_th ht hB
  have hP : va_P (dC, dI) vwCl (xw 7 ad (mc ad ci r_5)) H := hP
  refine lv_aload_n hx hb dX7_findAll_33 rfl (lv_at hl 0 rfl) ?_
  refine lv_iconst (v := (2 : Int32)) hx hb dX7_findAll_34 (by decide) ?_
  refine lv_lload_n hx hb dX7_findAll_35 rfl (lv_at hl 1 rfl) ?_
  refine lv_aload_n hx hb dX7_findAll_36 rfl (lv_at hl 0 rfl) ?_
  refine xr_get (D := (dC, dI)) (C := RX7) (T := TX7) (N := 9) (v := .int (m_gc r_5)) hx hb hts wX7_findAll_c7 hown hK hP 0 (by decide) me_M rfl 4 (by decide) wX7_findAll_f124 rfl rfl dX7_findAll_37 ?_
  refine lv_if_le (tgt := 47) hx hb dX7_findAll_40 (by decide) (fun c_6 => ?_) (fun c_6 => ?_)
  · have h := h.1 c_6
    refine lv_iconst (v := (0 : Int32)) hx hb dX7_findAll_47 (by decide) ?_
    refine va_callv (va_runV (As := [.int (2 : Int32), .long x1, .int (0 : Int32)]) (rest := []) ⟨hx, hb, C0.2.2.1, hown, hts⟩ (qX7_find l dC dI ad ci A hAD r_5 (2 : Int32) x1 (0 : Int32) _ h) (cwV 3 hts gX7_findAll_X7_find rfl rfl rfl (by decide +kernel) ⟨Nat.le_of_ble_eq_true rfl, Nat.le_of_ble_eq_true rfl⟩) ⟨xr_blind, xr_recv (r := (RX7, TX7, 9)) hK hP 0 (by decide) me_M rfl, xr_pre hP hK⟩ rfl rfl hl.1 rfl (lv_room (Nat.le_of_ble_eq_true rfl)) dX7_findAll_48 ⟨Nat.le_of_ble_eq_true rfl, Nat.le_of_ble_eq_true rfl⟩) hS (fun _ _ h => h) (fun _ h => h) (fun r_7 t9 H locs ht hvm h hB _ _ hS => ?_)
    refine W.cs (cells' := 0) (slots' := 0) rfl rfl ?_
    have hP := x_th ht hB
    have hP : va_P (dC, dI) vwCl (xw 7 ad (mc ad ci r_7)) H := hP
    exact W.vret hx hb hr (fun t ht hW => ⟨⟨r_7, rfl, h, x_ht ht hP⟩, hS.F ht⟩) hS.2.2 dX7_findAll_51
  · have h := h.2 c_6
    refine lv_iconst (v := (1 : Int32)) hx hb dX7_findAll_43 (by decide) ?_
    refine lv_goto (tgt := 48) hx hb dX7_findAll_44 (by decide) ?_
    refine va_callv (va_runV (As := [.int (2 : Int32), .long x1, .int (1 : Int32)]) (rest := []) ⟨hx, hb, C0.2.2.1, hown, hts⟩ (qX7_find l dC dI ad ci A hAD r_5 (2 : Int32) x1 (1 : Int32) _ h) (cwV 3 hts gX7_findAll_X7_find rfl rfl rfl (by decide +kernel) ⟨Nat.le_of_ble_eq_true rfl, Nat.le_of_ble_eq_true rfl⟩) ⟨xr_blind, xr_recv (r := (RX7, TX7, 9)) hK hP 0 (by decide) me_M rfl, xr_pre hP hK⟩ rfl rfl hl.1 rfl (lv_room (Nat.le_of_ble_eq_true rfl)) dX7_findAll_48 ⟨Nat.le_of_ble_eq_true rfl, Nat.le_of_ble_eq_true rfl⟩) hS (fun _ _ h => h) (fun _ h => h) (fun r_8 t9 H locs ht hvm h hB _ _ hS => ?_)
    refine W.cs (cells' := 0) (slots' := 0) rfl rfl ?_
    have hP := x_th ht hB
    have hP : va_P (dC, dI) vwCl (xw 7 ad (mc ad ci r_8)) H := hP
    exact W.vret hx hb hr (fun t ht hW => ⟨⟨r_8, rfl, h, x_ht ht hP⟩, hS.F ht⟩) hS.2.2 dX7_findAll_51
abbrev rmX7_tell : Room := { frames := 3, cells := 0, slots := 0, locals := 67 }
theorem wX7_tell_k48 : Cond.constantLong RX7 48 (-2000000005) ∈ wsX7_tell := by decide +kernel
theorem wX7_tell_k67 : Cond.constantLong RX7 67 (1125899906842624) ∈ wsX7_tell := by decide +kernel
def LX7_tell_3   (x1 : Int32) (x2 : Int64)  (post : MmV → Prop) : Nat → Int32 → MmV → Prop
  | 0, _, _ => False
  | n + 1, x4, r => (((200 : Int32) ≤ x4 → post r) ∧ (¬ (200 : Int32) ≤ x4 → (PX7_waits r x4 (fun (r_2 : Int32) => ((r_2 = 0 → ∀ x4_4 : Int32, x4_4 = x4 + 1 → LX7_tell_3  x1 x2 post n x4_4 r) ∧ (¬ r_2 = 0 → (PX7_get r x4 (7 : Int32) (fun (r_5 : Int64) => ((r_5 = (x1.toInt64) → (PX7_put r x4 (7 : Int32) (-2000000005 : Int64) (fun (r_8 : MmV) => (PX7_get r_8 x4 (8 : Int32) (fun (r_9 : Int64) => ∀ x5_10 : Int64, x5_10 = (x2 + r_9) → ((x5_10 ≤ (1125899906842624 : Int64) → (PX7_tick r_8 x4 x5_10 (fun (r_12 : MmV) => ∀ x4_13 : Int32, x4_13 = x4 + 1 → LX7_tell_3  x1 x2 post n x4_13 r_12))) ∧ (¬ x5_10 ≤ (1125899906842624 : Int64) → (PX7_tick r_8 x4 (1125899906842624 : Int64) (fun (r_14 : MmV) => ∀ x4_15 : Int32, x4_15 = x4 + 1 → LX7_tell_3  x1 x2 post n x4_15 r_14))))))))) ∧ (¬ r_5 = (x1.toInt64) → ∀ x4_7 : Int32, x4_7 = x4 + 1 → LX7_tell_3  x1 x2 post n x4_7 r))))))))))
set_option maxHeartbeats 4000000 in
set_option maxRecDepth 100000 in
theorem kX7_tell_3 {p : Program} {e : Env} {s : State} {m : MethodId} {args : Array Value} {below : List Frame} {meth : Method} {c : Code} (l : Launch) (dC : Nat → ClassId) (dI : Nat → Nat → Nat) (ad : Nat → Nat) (ci : Nat → ClassId) (A : Nat → Prop) (hAD : xw_D 7 ad A)  (x1 : Int32) (x2 : Int64)  (post : MmV → Prop) (C0 : xC p s m args meth c cX7_tell 7 none RX7 wsX7_tell (dC, dI) (xT ci)) : ∀ (n : Nat) (x4 : Int32) (r : MmV) (H : Heap) (locs : List Loc) (ls : Array Slot), LX7_tell_3  x1 x2 post n x4 r → va_P (dC, dI) vwCl (xw 7 ad (mc ad ci r)) H → va_S A s.heap H locs → lv_has ls 7 [(0, .ref (ad 0)), (1, .int x1), (2, .long x2), (4, .int x4)] → W p l e rmX7_tell s m args below meth c H locs 0 0 (MQ below (va_Qv (fun u : MmV => post u) (fun u t => va_P (dC, dI) vwCl (xw 7 ad (mc ad ci u)) t.heap) A) args s 0 0 A) (F0 m 3 ls []) := by
  obtain ⟨hx, hb, -, hr, hlocks, hown, hts, hK⟩ := id C0
  intro n
  induction n with
  | zero =>
    intro x4 r H locs ls h
    exact False.elim h
  | succ n ih =>
    intro x4 r H locs ls h hP hS hl
    rw [LX7_tell_3] at h
    refine lv_iload hx hb dX7_tell_3 (lv_at hl 3 rfl) ?_
    refine lv_sipush (v := (200 : Int32)) hx hb dX7_tell_5 (by decide) ?_
    refine lv_icmp_ge (tgt := 86) hx hb dX7_tell_8 (by decide) (fun c_1 => ?_) (fun c_1 => ?_)
    · have h := h.1 c_1
      exact W.vret hx hb hr (fun t ht hW => ⟨⟨r, rfl, h, x_ht ht hP⟩, hS.F ht⟩) hS.2.2 dX7_tell_86
    · have h := h.2 c_1
      refine lv_aload_n hx hb dX7_tell_11 rfl (lv_at hl 0 rfl) ?_
      refine lv_iload hx hb dX7_tell_12 (lv_at hl 3 rfl) ?_
      refine va_calli (va_runV (As := [.int x4]) (rest := []) ⟨hx, hb, C0.2.2.1, hown, hts⟩ (qX7_waits l dC dI ad ci A hAD r x4 _ h) (cwV 1 hts gX7_tell_X7_waits rfl rfl rfl (by decide +kernel) ⟨Nat.le_of_ble_eq_true rfl, Nat.le_of_ble_eq_true rfl⟩) ⟨xr_blind, xr_recv (r := (RX7, TX7, 9)) hK hP 0 (by decide) me_M rfl, xr_pre hP hK⟩ rfl rfl hl.1 rfl (lv_room (Nat.le_of_ble_eq_true rfl)) dX7_tell_14 ⟨Nat.le_of_ble_eq_true rfl, Nat.le_of_ble_eq_true rfl⟩) hS (fun _ _ h => h) (fun _ h => h) (fun r_2 _ t9 H locs ht hvm h hB _ _ hS => ?_)
      refine W.cs (cells' := 0) (slots' := 0) rfl rfl ?_
      have hP := x_th ht hB
      have hP : va_P (dC, dI) vwCl (xw 7 ad (mc ad ci r)) H := hP
      refine lv_if_eq (tgt := 80) hx hb dX7_tell_17 (by decide) (fun c_3 => ?_) (fun c_3 => ?_)
      · have h := h.1 c_3
        obtain ⟨x4_4, ex4_4⟩ : ∃ z : Int32, z = x4 + 1 := ⟨_, rfl⟩
        have h := h x4_4 ex4_4
        refine lv_iinc (v := x4_4) (lv' := [(4, .int x4_4), (0, .ref (ad 0)), (1, .int x1), (2, .long x2)]) hx hb dX7_tell_80 hl (k := 3) rfl (by rw [ex4_4]; rfl) (by decide) rfl (fun ls hl => ?_)
        refine lv_goto (tgt := 3) hx hb dX7_tell_83 (by decide) ?_
        exact ih x4_4 r _ _ _ h hP hS (lv_sub hl [1, 2, 3, 0] rfl)
      · have h := h.2 c_3
        refine lv_aload_n hx hb dX7_tell_20 rfl (lv_at hl 0 rfl) ?_
        refine lv_iload hx hb dX7_tell_21 (lv_at hl 3 rfl) ?_
        refine lv_bipush (v := (7 : Int32)) hx hb dX7_tell_23 (by decide) ?_
        refine va_calll (va_runV (As := [.int x4, .int (7 : Int32)]) (rest := []) ⟨hx, hb, C0.2.2.1, hown, hts⟩ (qX7_get l dC dI ad ci A hAD r x4 (7 : Int32) _ h) (cwV 2 hts gX7_tell_X7_get rfl rfl rfl (by decide +kernel) ⟨Nat.le_of_ble_eq_true rfl, Nat.le_of_ble_eq_true rfl⟩) ⟨xr_blind, xr_recv (r := (RX7, TX7, 9)) hK hP 0 (by decide) me_M rfl, xr_pre hP hK⟩ rfl rfl hl.1 rfl (lv_room (Nat.le_of_ble_eq_true rfl)) dX7_tell_25 ⟨Nat.le_of_ble_eq_true rfl, Nat.le_of_ble_eq_true rfl⟩) hS (fun _ _ h => h) (fun _ h => h) (fun r_5 _ t9 H locs ht hvm h hB _ _ hS => ?_)
        refine W.cs (cells' := 0) (slots' := 0) rfl rfl ?_
        have hP := x_th ht hB
        have hP : va_P (dC, dI) vwCl (xw 7 ad (mc ad ci r)) H := hP
        refine lv_iload_n hx hb dX7_tell_28 rfl (lv_at hl 1 rfl) ?_
        refine lv_i2l hx hb dX7_tell_29 rfl ?_
        refine xr_if_lcmp_ne (tgt := 80) hx hb dX7_tell_30 dX7_tell_31 (by decide) (fun c_6 => ?_) (fun c_6 => ?_)
        · have h := h.2 c_6
          obtain ⟨x4_7, ex4_7⟩ : ∃ z : Int32, z = x4 + 1 := ⟨_, rfl⟩
          have h := h x4_7 ex4_7
          refine lv_iinc (v := x4_7) (lv' := [(4, .int x4_7), (0, .ref (ad 0)), (1, .int x1), (2, .long x2)]) hx hb dX7_tell_80 hl (k := 3) rfl (by rw [ex4_7]; rfl) (by decide) rfl (fun ls hl => ?_)
          refine lv_goto (tgt := 3) hx hb dX7_tell_83 (by decide) ?_
          exact ih x4_7 r _ _ _ h hP hS (lv_sub hl [1, 2, 3, 0] rfl)
        · have h := h.1 c_6
          refine lv_aload_n hx hb dX7_tell_34 rfl (lv_at hl 0 rfl) ?_
          refine lv_iload hx hb dX7_tell_35 (lv_at hl 3 rfl) ?_
          refine lv_bipush (v := (7 : Int32)) hx hb dX7_tell_37 (by decide) ?_
          refine lv_ldc2 (v := (-2000000005 : Int64)) hx hb hown (hts _ wX7_tell_k48) dX7_tell_39 ?_
          refine va_callv (va_runV (As := [.int x4, .int (7 : Int32), .long (-2000000005 : Int64)]) (rest := []) ⟨hx, hb, C0.2.2.1, hown, hts⟩ (qX7_put l dC dI ad ci A hAD r x4 (7 : Int32) (-2000000005 : Int64) _ h) (cwV 3 hts gX7_tell_X7_put rfl rfl rfl (by decide +kernel) ⟨Nat.le_of_ble_eq_true rfl, Nat.le_of_ble_eq_true rfl⟩) ⟨xr_blind, xr_recv (r := (RX7, TX7, 9)) hK hP 0 (by decide) me_M rfl, xr_pre hP hK⟩ rfl rfl hl.1 rfl (lv_room (Nat.le_of_ble_eq_true rfl)) dX7_tell_42 ⟨Nat.le_of_ble_eq_true rfl, Nat.le_of_ble_eq_true rfl⟩) hS (fun _ _ h => h) (fun _ h => h) (fun r_8 t9 H locs ht hvm h hB _ _ hS => ?_)
          refine W.cs (cells' := 0) (slots' := 0) rfl rfl ?_
          have hP := x_th ht hB
          have hP : va_P (dC, dI) vwCl (xw 7 ad (mc ad ci r_8)) H := hP
          refine lv_lload_n hx hb dX7_tell_45 rfl (lv_at hl 2 rfl) ?_
          refine lv_aload_n hx hb dX7_tell_46 rfl (lv_at hl 0 rfl) ?_
          refine lv_iload hx hb dX7_tell_47 (lv_at hl 3 rfl) ?_
          refine lv_bipush (v := (8 : Int32)) hx hb dX7_tell_49 (by decide) ?_
          refine va_calll (va_runV (As := [.int x4, .int (8 : Int32)]) (rest := [.long x2]) ⟨hx, hb, C0.2.2.1, hown, hts⟩ (qX7_get l dC dI ad ci A hAD r_8 x4 (8 : Int32) _ h) (cwV 2 hts gX7_tell_X7_get rfl rfl rfl (by decide +kernel) ⟨Nat.le_of_ble_eq_true rfl, Nat.le_of_ble_eq_true rfl⟩) ⟨xr_blind, xr_recv (r := (RX7, TX7, 9)) hK hP 0 (by decide) me_M rfl, xr_pre hP hK⟩ rfl rfl hl.1 rfl (lv_room (Nat.le_of_ble_eq_true rfl)) dX7_tell_51 ⟨Nat.le_of_ble_eq_true rfl, Nat.le_of_ble_eq_true rfl⟩) hS (fun _ _ h => h) (fun _ h => h) (fun r_9 _ t9 H locs ht hvm h hB _ _ hS => ?_)
          refine W.cs (cells' := 0) (slots' := 0) rfl rfl ?_
          have hP := x_th ht hB
          have hP : va_P (dC, dI) vwCl (xw 7 ad (mc ad ci r_8)) H := hP
          refine lv_ladd hx hb dX7_tell_54 ?_
          refine lv_topl (fun x5_10 ex5_10 => ?_)
          have h := h x5_10 ex5_10
          refine lv_lstore (lv' := [(5, .long x5_10), (0, .ref (ad 0)), (1, .int x1), (2, .long x2), (4, .int x4)]) hx hb dX7_tell_55 hl (by decide) rfl (fun ls hl => ?_)
          refine lv_aload_n hx hb dX7_tell_57 rfl (lv_at hl 1 rfl) ?_
          refine lv_iload hx hb dX7_tell_58 (lv_at hl 4 rfl) ?_
          refine lv_lload hx hb dX7_tell_60 (lv_at hl 0 rfl) ?_
          refine lv_ldc2 (v := (1125899906842624 : Int64)) hx hb hown (hts _ wX7_tell_k67) dX7_tell_62 ?_
          refine xr_if_lcmp_le (tgt := 75) hx hb dX7_tell_65 dX7_tell_66 (by decide) (fun c_11 => ?_) (fun c_11 => ?_)
          · have h := h.1 c_11
            refine lv_lload hx hb dX7_tell_75 (lv_at hl 0 rfl) ?_
            refine va_callv (va_runV (As := [.int x4, .long x5_10]) (rest := []) ⟨hx, hb, C0.2.2.1, hown, hts⟩ (qX7_tick l dC dI ad ci A hAD r_8 x4 x5_10 _ h) (cwV 2 hts gX7_tell_X7_tick rfl rfl rfl (by decide +kernel) ⟨Nat.le_of_ble_eq_true rfl, Nat.le_of_ble_eq_true rfl⟩) ⟨xr_blind, xr_recv (r := (RX7, TX7, 9)) hK hP 0 (by decide) me_M rfl, xr_pre hP hK⟩ rfl rfl hl.1 rfl (lv_room (Nat.le_of_ble_eq_true rfl)) dX7_tell_77 ⟨Nat.le_of_ble_eq_true rfl, Nat.le_of_ble_eq_true rfl⟩) hS (fun _ _ h => h) (fun _ h => h) (fun r_12 t9 H locs ht hvm h hB _ _ hS => ?_)
            refine W.cs (cells' := 0) (slots' := 0) rfl rfl ?_
            have hP := x_th ht hB
            have hP : va_P (dC, dI) vwCl (xw 7 ad (mc ad ci r_12)) H := hP
            obtain ⟨x4_13, ex4_13⟩ : ∃ z : Int32, z = x4 + 1 := ⟨_, rfl⟩
            have h := h x4_13 ex4_13
            refine lv_iinc (v := x4_13) (lv' := [(4, .int x4_13), (5, .long x5_10), (0, .ref (ad 0)), (1, .int x1), (2, .long x2)]) hx hb dX7_tell_80 hl (k := 4) rfl (by rw [ex4_13]; rfl) (by decide) rfl (fun ls hl => ?_)
            refine lv_goto (tgt := 3) hx hb dX7_tell_83 (by decide) ?_
            exact ih x4_13 r_12 _ _ _ h hP hS (lv_sub hl [2, 3, 4, 0] rfl)
          · have h := h.2 c_11
            refine lv_ldc2 (v := (1125899906842624 : Int64)) hx hb hown (hts _ wX7_tell_k67) dX7_tell_69 ?_
            refine lv_goto (tgt := 77) hx hb dX7_tell_72 (by decide) ?_
            refine va_callv (va_runV (As := [.int x4, .long (1125899906842624 : Int64)]) (rest := []) ⟨hx, hb, C0.2.2.1, hown, hts⟩ (qX7_tick l dC dI ad ci A hAD r_8 x4 (1125899906842624 : Int64) _ h) (cwV 2 hts gX7_tell_X7_tick rfl rfl rfl (by decide +kernel) ⟨Nat.le_of_ble_eq_true rfl, Nat.le_of_ble_eq_true rfl⟩) ⟨xr_blind, xr_recv (r := (RX7, TX7, 9)) hK hP 0 (by decide) me_M rfl, xr_pre hP hK⟩ rfl rfl hl.1 rfl (lv_room (Nat.le_of_ble_eq_true rfl)) dX7_tell_77 ⟨Nat.le_of_ble_eq_true rfl, Nat.le_of_ble_eq_true rfl⟩) hS (fun _ _ h => h) (fun _ h => h) (fun r_14 t9 H locs ht hvm h hB _ _ hS => ?_)
            refine W.cs (cells' := 0) (slots' := 0) rfl rfl ?_
            have hP := x_th ht hB
            have hP : va_P (dC, dI) vwCl (xw 7 ad (mc ad ci r_14)) H := hP
            obtain ⟨x4_15, ex4_15⟩ : ∃ z : Int32, z = x4 + 1 := ⟨_, rfl⟩
            have h := h x4_15 ex4_15
            refine lv_iinc (v := x4_15) (lv' := [(4, .int x4_15), (5, .long x5_10), (0, .ref (ad 0)), (1, .int x1), (2, .long x2)]) hx hb dX7_tell_80 hl (k := 4) rfl (by rw [ex4_15]; rfl) (by decide) rfl (fun ls hl => ?_)
            refine lv_goto (tgt := 3) hx hb dX7_tell_83 (by decide) ?_
            exact ih x4_15 r_14 _ _ _ h hP hS (lv_sub hl [2, 3, 4, 0] rfl)
def PX7_tell  (r : MmV) (x1 : Int32) (x2 : Int64) (post : MmV → Prop) : Prop :=
  (∃ n_16 : Nat, LX7_tell_3  x1 x2  post n_16 (0 : Int32) r)
set_option maxHeartbeats 4000000 in
set_option maxRecDepth 100000 in
theorem qX7_tell (l : Launch) (dC : Nat → ClassId) (dI : Nat → Nat → Nat) (ad : Nat → Nat) (ci : Nat → ClassId) (A : Nat → Prop) (hAD : xw_D 7 ad A) (r : MmV) (x1 : Int32) (x2 : Int64) (post : MmV → Prop) (h : PX7_tell r x1 x2 post) : Met l yX7_tell wsX7_tell rmX7_tell (va_Pc [.ref (ad 0), .int x1, .long x2] (fun U => va_P (dC, dI) vwCl (xw 7 ad (mc ad ci r)) U.heap ∧ va_K (dC, dI) vwCl (xT ci) U)) (va_Qv (fun u : MmV => post u) (fun u t => va_P (dC, dI) vwCl (xw 7 ad (mc ad ci u)) t.heap) A) 0 0 A := by
  refine Met.ofW (cc := cX7_tell) (maxL := 7) (ret := none) (by decide) rfl ?_
  intro p e s m args below meth c s₁ B hml hv
  obtain ⟨eargs, hP, hK⟩ := hv
  have C0 : xC p s m args meth c cX7_tell 7 none RX7 wsX7_tell (dC, dI) (xT ci) := ⟨B.exec, B.bytes, hml, B.returns, B.notSynchronized, findClass_of_methodNamed B.named, atoms_spec (ws := wsX7_tell) B.pre, hK⟩
  obtain ⟨hx, hb, -, hr, hlocks, hown, hts, -⟩ := id C0
  have hS : va_S A s.heap s.heap [] := va_S.rf
  have hl := lv_entry ([.ref (ad 0), .int x1, .long x2]) (n := 7) (Nat.le_of_ble_eq_true rfl)
  have ef : entryFrame m args 7 = entryFrame m ([.ref (ad 0), .int x1, .long x2] : List Value).toArray 7 := by rw [eargs]
  rw [ef, lg_entry_eq]
  generalize (lg_sl ([.ref (ad 0), .int x1, .long x2]) ++ List.replicate (7 - (lg_sl ([.ref (ad 0), .int x1, .long x2])).length) Slot.unset).toArray = ls at hl ⊢
  have hl : lv_has ls 7 [(0, .ref (ad 0)), (1, .int x1), (2, .long x2)] := hl
  have hP : va_P (dC, dI) vwCl (xw 7 ad (mc ad ci r)) s.heap := hP
  unfold PX7_tell at h
  refine lv_iconst (v := (0 : Int32)) hx hb dX7_tell_0 (by decide) ?_
  refine lv_istore (lv' := [(4, .int (0 : Int32)), (0, .ref (ad 0)), (1, .int x1), (2, .long x2)]) hx hb dX7_tell_1 hl (by decide) rfl (fun ls hl => ?_)
  obtain ⟨n_16, h⟩ := h
  exact kX7_tell_3 l dC dI ad ci A hAD    x1 x2  post C0  n_16 (0 : Int32) r _ _ _ h hP hS (lv_sub hl [1, 2, 3, 0] rfl)
abbrev rmX7_goesOn : Room := { frames := 2, cells := 0, slots := 0, locals := 47 }
theorem wX7_goesOn_k67 : Cond.constantLong RX7 67 (1125899906842624) ∈ wsX7_goesOn := by decide +kernel
theorem wX7_goesOn_k107 : Cond.constantLong RX7 107 (4) ∈ wsX7_goesOn := by decide +kernel
def PX7_goesOn  (r : MmV) (x1 : Int32) (x2 : Int64) (post : MmV → Prop) : Prop :=
  (PX7_get r x1 (1 : Int32) (fun (r_1 : Int64) => ((r_1 = (1 : Int64) → (PX7_get r x1 (6 : Int32) (fun (r_3 : Int64) => (PX7_get r x1 (5 : Int32) (fun (r_4 : Int64) => ∀ x8_5 : Int64, x8_5 = (x2 + r_4) → ((r_3 = (1 : Int64) → (PX7_put r x1 (0 : Int32) (0 : Int64) (fun (r_7 : MmV) => post r_7))) ∧ (¬ r_3 = (1 : Int64) → ((x8_5 ≤ (1125899906842624 : Int64) → ((r_3 = (0 : Int64) → (PX7_put r x1 (6 : Int32) (0 : Int64) (fun (r_12 : MmV) => (PX7_tick r_12 x1 x8_5 (fun (r_13 : MmV) => post r_13))))) ∧ (¬ r_3 = (0 : Int64) → (PX7_put r x1 (6 : Int32) (r_3 - (1 : Int64)) (fun (r_10 : MmV) => (PX7_tick r_10 x1 x8_5 (fun (r_11 : MmV) => post r_11))))))) ∧ (¬ x8_5 ≤ (1125899906842624 : Int64) → (PX7_put r x1 (0 : Int32) (0 : Int64) (fun (r_14 : MmV) => post r_14))))))))))) ∧ (¬ r_1 = (1 : Int64) → ((r_1 = (4 : Int64) → (PX7_get r x1 (6 : Int32) (fun (r_16 : Int64) => (PX7_get r x1 (5 : Int32) (fun (r_17 : Int64) => ∀ x8_18 : Int64, x8_18 = (x2 + r_17) → ((r_16 = (1 : Int64) → (PX7_put r x1 (0 : Int32) (0 : Int64) (fun (r_20 : MmV) => post r_20))) ∧ (¬ r_16 = (1 : Int64) → ((x8_18 ≤ (1125899906842624 : Int64) → ((r_16 = (0 : Int64) → (PX7_put r x1 (6 : Int32) (0 : Int64) (fun (r_25 : MmV) => (PX7_tick r_25 x1 x8_18 (fun (r_26 : MmV) => post r_26))))) ∧ (¬ r_16 = (0 : Int64) → (PX7_put r x1 (6 : Int32) (r_16 - (1 : Int64)) (fun (r_23 : MmV) => (PX7_tick r_23 x1 x8_18 (fun (r_24 : MmV) => post r_24))))))) ∧ (¬ x8_18 ≤ (1125899906842624 : Int64) → (PX7_put r x1 (0 : Int32) (0 : Int64) (fun (r_27 : MmV) => post r_27))))))))))) ∧ (¬ r_1 = (4 : Int64) → (PX7_put r x1 (0 : Int32) (0 : Int64) (fun (r_28 : MmV) => post r_28))))))))
set_option maxHeartbeats 4000000 in
set_option maxRecDepth 100000 in
theorem qX7_goesOn (l : Launch) (dC : Nat → ClassId) (dI : Nat → Nat → Nat) (ad : Nat → Nat) (ci : Nat → ClassId) (A : Nat → Prop) (hAD : xw_D 7 ad A) (r : MmV) (x1 : Int32) (x2 : Int64) (post : MmV → Prop) (h : PX7_goesOn r x1 x2 post) : Met l yX7_goesOn wsX7_goesOn rmX7_goesOn (va_Pc [.ref (ad 0), .int x1, .long x2] (fun U => va_P (dC, dI) vwCl (xw 7 ad (mc ad ci r)) U.heap ∧ va_K (dC, dI) vwCl (xT ci) U)) (va_Qv (fun u : MmV => post u) (fun u t => va_P (dC, dI) vwCl (xw 7 ad (mc ad ci u)) t.heap) A) 0 0 A := by
  refine Met.ofW (cc := cX7_goesOn) (maxL := 10) (ret := none) (by decide) rfl ?_
  intro p e s m args below meth c s₁ B hml hv
  obtain ⟨eargs, hP, hK⟩ := hv
  have C0 : xC p s m args meth c cX7_goesOn 10 none RX7 wsX7_goesOn (dC, dI) (xT ci) := ⟨B.exec, B.bytes, hml, B.returns, B.notSynchronized, findClass_of_methodNamed B.named, atoms_spec (ws := wsX7_goesOn) B.pre, hK⟩
  obtain ⟨hx, hb, -, hr, hlocks, hown, hts, -⟩ := id C0
  have hS : va_S A s.heap s.heap [] := va_S.rf
  have hl := lv_entry ([.ref (ad 0), .int x1, .long x2]) (n := 10) (Nat.le_of_ble_eq_true rfl)
  have ef : entryFrame m args 10 = entryFrame m ([.ref (ad 0), .int x1, .long x2] : List Value).toArray 10 := by rw [eargs]
  rw [ef, lg_entry_eq]
  generalize (lg_sl ([.ref (ad 0), .int x1, .long x2]) ++ List.replicate (10 - (lg_sl ([.ref (ad 0), .int x1, .long x2])).length) Slot.unset).toArray = ls at hl ⊢
  have hl : lv_has ls 10 [(0, .ref (ad 0)), (1, .int x1), (2, .long x2)] := hl
  have hP : va_P (dC, dI) vwCl (xw 7 ad (mc ad ci r)) s.heap := hP
  unfold PX7_goesOn at h
  refine lv_aload_n hx hb dX7_goesOn_0 rfl (lv_at hl 0 rfl) ?_
  refine lv_iload_n hx hb dX7_goesOn_1 rfl (lv_at hl 1 rfl) ?_
  refine lv_iconst (v := (1 : Int32)) hx hb dX7_goesOn_2 (by decide) ?_
  refine va_calll (va_runV (As := [.int x1, .int (1 : Int32)]) (rest := []) ⟨hx, hb, C0.2.2.1, hown, hts⟩ (qX7_get l dC dI ad ci A hAD r x1 (1 : Int32) _ h) (cwV 2 hts gX7_goesOn_X7_get rfl rfl rfl (by decide +kernel) ⟨Nat.le_of_ble_eq_true rfl, Nat.le_of_ble_eq_true rfl⟩) ⟨xr_blind, xr_recv (r := (RX7, TX7, 9)) hK hP 0 (by decide) me_M rfl, xr_pre hP hK⟩ rfl rfl hl.1 rfl (lv_room (Nat.le_of_ble_eq_true rfl)) dX7_goesOn_3 ⟨Nat.le_of_ble_eq_true rfl, Nat.le_of_ble_eq_true rfl⟩) hS (fun _ _ h => h) (fun _ h => h) (fun r_1 _ t9 H locs ht hvm h hB _ _ hS => ?_)
  refine W.cs (cells' := 0) (slots' := 0) rfl rfl ?_
  have hP := x_th ht hB
  have hP : va_P (dC, dI) vwCl (xw 7 ad (mc ad ci r)) H := hP
  refine lv_lstore (lv' := [(4, .long r_1), (0, .ref (ad 0)), (1, .int x1), (2, .long x2)]) hx hb dX7_goesOn_6 hl (by decide) rfl (fun ls hl => ?_)
  refine lv_lload hx hb dX7_goesOn_8 (lv_at hl 0 rfl) ?_
  refine lv_lconst (v := (1 : Int64)) hx hb dX7_goesOn_10 (by decide) ?_
  refine xr_if_lcmp_eq (tgt := 32) hx hb dX7_goesOn_11 dX7_goesOn_12 (by decide) (fun c_2 => ?_) (fun c_2 => ?_)
  · have h := h.1 c_2
    refine lv_aload_n hx hb dX7_goesOn_32 rfl (lv_at hl 1 rfl) ?_
    refine lv_iload_n hx hb dX7_goesOn_33 rfl (lv_at hl 2 rfl) ?_
    refine lv_bipush (v := (6 : Int32)) hx hb dX7_goesOn_34 (by decide) ?_
    refine va_calll (va_runV (As := [.int x1, .int (6 : Int32)]) (rest := []) ⟨hx, hb, C0.2.2.1, hown, hts⟩ (qX7_get l dC dI ad ci A hAD r x1 (6 : Int32) _ h) (cwV 2 hts gX7_goesOn_X7_get rfl rfl rfl (by decide +kernel) ⟨Nat.le_of_ble_eq_true rfl, Nat.le_of_ble_eq_true rfl⟩) ⟨xr_blind, xr_recv (r := (RX7, TX7, 9)) hK hP 0 (by decide) me_M rfl, xr_pre hP hK⟩ rfl rfl hl.1 rfl (lv_room (Nat.le_of_ble_eq_true rfl)) dX7_goesOn_36 ⟨Nat.le_of_ble_eq_true rfl, Nat.le_of_ble_eq_true rfl⟩) hS (fun _ _ h => h) (fun _ h => h) (fun r_3 _ t9 H locs ht hvm h hB _ _ hS => ?_)
    refine W.cs (cells' := 0) (slots' := 0) rfl rfl ?_
    have hP := x_th ht hB
    have hP : va_P (dC, dI) vwCl (xw 7 ad (mc ad ci r)) H := hP
    refine lv_lstore (lv' := [(6, .long r_3), (4, .long r_1), (0, .ref (ad 0)), (1, .int x1), (2, .long x2)]) hx hb dX7_goesOn_39 hl (by decide) rfl (fun ls hl => ?_)
    refine lv_lload_n hx hb dX7_goesOn_41 rfl (lv_at hl 4 rfl) ?_
    refine lv_aload_n hx hb dX7_goesOn_42 rfl (lv_at hl 2 rfl) ?_
    refine lv_iload_n hx hb dX7_goesOn_43 rfl (lv_at hl 3 rfl) ?_
    refine lv_iconst (v := (5 : Int32)) hx hb dX7_goesOn_44 (by decide) ?_
    refine va_calll (va_runV (As := [.int x1, .int (5 : Int32)]) (rest := [.long x2]) ⟨hx, hb, C0.2.2.1, hown, hts⟩ (qX7_get l dC dI ad ci A hAD r x1 (5 : Int32) _ h) (cwV 2 hts gX7_goesOn_X7_get rfl rfl rfl (by decide +kernel) ⟨Nat.le_of_ble_eq_true rfl, Nat.le_of_ble_eq_true rfl⟩) ⟨xr_blind, xr_recv (r := (RX7, TX7, 9)) hK hP 0 (by decide) me_M rfl, xr_pre hP hK⟩ rfl rfl hl.1 rfl (lv_room (Nat.le_of_ble_eq_true rfl)) dX7_goesOn_45 ⟨Nat.le_of_ble_eq_true rfl, Nat.le_of_ble_eq_true rfl⟩) hS (fun _ _ h => h) (fun _ h => h) (fun r_4 _ t9 H locs ht hvm h hB _ _ hS => ?_)
    refine W.cs (cells' := 0) (slots' := 0) rfl rfl ?_
    have hP := x_th ht hB
    have hP : va_P (dC, dI) vwCl (xw 7 ad (mc ad ci r)) H := hP
    refine lv_ladd hx hb dX7_goesOn_48 ?_
    refine lv_topl (fun x8_5 ex8_5 => ?_)
    have h := h x8_5 ex8_5
    refine lv_lstore (lv' := [(8, .long x8_5), (6, .long r_3), (4, .long r_1), (0, .ref (ad 0)), (1, .int x1), (2, .long x2)]) hx hb dX7_goesOn_49 hl (by decide) rfl (fun ls hl => ?_)
    refine lv_lload hx hb dX7_goesOn_51 (lv_at hl 1 rfl) ?_
    refine lv_lconst (v := (1 : Int64)) hx hb dX7_goesOn_53 (by decide) ?_
    refine xr_if_lcmp_eq (tgt := 67) hx hb dX7_goesOn_54 dX7_goesOn_55 (by decide) (fun c_6 => ?_) (fun c_6 => ?_)
    · have h := h.1 c_6
      refine lv_aload_n hx hb dX7_goesOn_67 rfl (lv_at hl 3 rfl) ?_
      refine lv_iload_n hx hb dX7_goesOn_68 rfl (lv_at hl 4 rfl) ?_
      refine lv_iconst (v := (0 : Int32)) hx hb dX7_goesOn_69 (by decide) ?_
      refine lv_lconst (v := (0 : Int64)) hx hb dX7_goesOn_70 (by decide) ?_
      refine va_callv (va_runV (As := [.int x1, .int (0 : Int32), .long (0 : Int64)]) (rest := []) ⟨hx, hb, C0.2.2.1, hown, hts⟩ (qX7_put l dC dI ad ci A hAD r x1 (0 : Int32) (0 : Int64) _ h) (cwV 3 hts gX7_goesOn_X7_put rfl rfl rfl (by decide +kernel) ⟨Nat.le_of_ble_eq_true rfl, Nat.le_of_ble_eq_true rfl⟩) ⟨xr_blind, xr_recv (r := (RX7, TX7, 9)) hK hP 0 (by decide) me_M rfl, xr_pre hP hK⟩ rfl rfl hl.1 rfl (lv_room (Nat.le_of_ble_eq_true rfl)) dX7_goesOn_71 ⟨Nat.le_of_ble_eq_true rfl, Nat.le_of_ble_eq_true rfl⟩) hS (fun _ _ h => h) (fun _ h => h) (fun r_7 t9 H locs ht hvm h hB _ _ hS => ?_)
      refine W.cs (cells' := 0) (slots' := 0) rfl rfl ?_
      have hP := x_th ht hB
      have hP : va_P (dC, dI) vwCl (xw 7 ad (mc ad ci r_7)) H := hP
      exact W.vret hx hb hr (fun t ht hW => ⟨⟨r_7, rfl, h, x_ht ht hP⟩, hS.F ht⟩) hS.2.2 dX7_goesOn_74
    · have h := h.2 c_6
      refine lv_lload hx hb dX7_goesOn_58 (lv_at hl 0 rfl) ?_
      refine lv_ldc2 (v := (1125899906842624 : Int64)) hx hb hown (hts _ wX7_goesOn_k67) dX7_goesOn_60 ?_
      refine xr_if_lcmp_le (tgt := 75) hx hb dX7_goesOn_63 dX7_goesOn_64 (by decide) (fun c_8 => ?_) (fun c_8 => ?_)
      · have h := h.1 c_8
        refine lv_aload_n hx hb dX7_goesOn_75 rfl (lv_at hl 3 rfl) ?_
        refine lv_iload_n hx hb dX7_goesOn_76 rfl (lv_at hl 4 rfl) ?_
        refine lv_bipush (v := (6 : Int32)) hx hb dX7_goesOn_77 (by decide) ?_
        refine lv_lload hx hb dX7_goesOn_79 (lv_at hl 1 rfl) ?_
        refine lv_lconst (v := (0 : Int64)) hx hb dX7_goesOn_81 (by decide) ?_
        refine xr_if_lcmp_ne (tgt := 90) hx hb dX7_goesOn_82 dX7_goesOn_83 (by decide) (fun c_9 => ?_) (fun c_9 => ?_)
        · have h := h.2 c_9
          refine lv_lload hx hb dX7_goesOn_90 (lv_at hl 1 rfl) ?_
          refine lv_lconst (v := (1 : Int64)) hx hb dX7_goesOn_92 (by decide) ?_
          refine lv_lsub hx hb dX7_goesOn_93 ?_
          refine va_callv (va_runV (As := [.int x1, .int (6 : Int32), .long (r_3 - (1 : Int64))]) (rest := []) ⟨hx, hb, C0.2.2.1, hown, hts⟩ (qX7_put l dC dI ad ci A hAD r x1 (6 : Int32) (r_3 - (1 : Int64)) _ h) (cwV 3 hts gX7_goesOn_X7_put rfl rfl rfl (by decide +kernel) ⟨Nat.le_of_ble_eq_true rfl, Nat.le_of_ble_eq_true rfl⟩) ⟨xr_blind, xr_recv (r := (RX7, TX7, 9)) hK hP 0 (by decide) me_M rfl, xr_pre hP hK⟩ rfl rfl hl.1 rfl (lv_room (Nat.le_of_ble_eq_true rfl)) dX7_goesOn_94 ⟨Nat.le_of_ble_eq_true rfl, Nat.le_of_ble_eq_true rfl⟩) hS (fun _ _ h => h) (fun _ h => h) (fun r_10 t9 H locs ht hvm h hB _ _ hS => ?_)
          refine W.cs (cells' := 0) (slots' := 0) rfl rfl ?_
          have hP := x_th ht hB
          have hP : va_P (dC, dI) vwCl (xw 7 ad (mc ad ci r_10)) H := hP
          refine lv_aload_n hx hb dX7_goesOn_97 rfl (lv_at hl 3 rfl) ?_
          refine lv_iload_n hx hb dX7_goesOn_98 rfl (lv_at hl 4 rfl) ?_
          refine lv_lload hx hb dX7_goesOn_99 (lv_at hl 0 rfl) ?_
          refine va_callv (va_runV (As := [.int x1, .long x8_5]) (rest := []) ⟨hx, hb, C0.2.2.1, hown, hts⟩ (qX7_tick l dC dI ad ci A hAD r_10 x1 x8_5 _ h) (cwV 2 hts gX7_goesOn_X7_tick rfl rfl rfl (by decide +kernel) ⟨Nat.le_of_ble_eq_true rfl, Nat.le_of_ble_eq_true rfl⟩) ⟨xr_blind, xr_recv (r := (RX7, TX7, 9)) hK hP 0 (by decide) me_M rfl, xr_pre hP hK⟩ rfl rfl hl.1 rfl (lv_room (Nat.le_of_ble_eq_true rfl)) dX7_goesOn_101 ⟨Nat.le_of_ble_eq_true rfl, Nat.le_of_ble_eq_true rfl⟩) hS (fun _ _ h => h) (fun _ h => h) (fun r_11 t9 H locs ht hvm h hB _ _ hS => ?_)
          refine W.cs (cells' := 0) (slots' := 0) rfl rfl ?_
          have hP := x_th ht hB
          have hP : va_P (dC, dI) vwCl (xw 7 ad (mc ad ci r_11)) H := hP
          exact W.vret hx hb hr (fun t ht hW => ⟨⟨r_11, rfl, h, x_ht ht hP⟩, hS.F ht⟩) hS.2.2 dX7_goesOn_104
        · have h := h.1 c_9
          refine lv_lconst (v := (0 : Int64)) hx hb dX7_goesOn_86 (by decide) ?_
          refine lv_goto (tgt := 94) hx hb dX7_goesOn_87 (by decide) ?_
          refine va_callv (va_runV (As := [.int x1, .int (6 : Int32), .long (0 : Int64)]) (rest := []) ⟨hx, hb, C0.2.2.1, hown, hts⟩ (qX7_put l dC dI ad ci A hAD r x1 (6 : Int32) (0 : Int64) _ h) (cwV 3 hts gX7_goesOn_X7_put rfl rfl rfl (by decide +kernel) ⟨Nat.le_of_ble_eq_true rfl, Nat.le_of_ble_eq_true rfl⟩) ⟨xr_blind, xr_recv (r := (RX7, TX7, 9)) hK hP 0 (by decide) me_M rfl, xr_pre hP hK⟩ rfl rfl hl.1 rfl (lv_room (Nat.le_of_ble_eq_true rfl)) dX7_goesOn_94 ⟨Nat.le_of_ble_eq_true rfl, Nat.le_of_ble_eq_true rfl⟩) hS (fun _ _ h => h) (fun _ h => h) (fun r_12 t9 H locs ht hvm h hB _ _ hS => ?_)
          refine W.cs (cells' := 0) (slots' := 0) rfl rfl ?_
          have hP := x_th ht hB
          have hP : va_P (dC, dI) vwCl (xw 7 ad (mc ad ci r_12)) H := hP
          refine lv_aload_n hx hb dX7_goesOn_97 rfl (lv_at hl 3 rfl) ?_
          refine lv_iload_n hx hb dX7_goesOn_98 rfl (lv_at hl 4 rfl) ?_
          refine lv_lload hx hb dX7_goesOn_99 (lv_at hl 0 rfl) ?_
          refine va_callv (va_runV (As := [.int x1, .long x8_5]) (rest := []) ⟨hx, hb, C0.2.2.1, hown, hts⟩ (qX7_tick l dC dI ad ci A hAD r_12 x1 x8_5 _ h) (cwV 2 hts gX7_goesOn_X7_tick rfl rfl rfl (by decide +kernel) ⟨Nat.le_of_ble_eq_true rfl, Nat.le_of_ble_eq_true rfl⟩) ⟨xr_blind, xr_recv (r := (RX7, TX7, 9)) hK hP 0 (by decide) me_M rfl, xr_pre hP hK⟩ rfl rfl hl.1 rfl (lv_room (Nat.le_of_ble_eq_true rfl)) dX7_goesOn_101 ⟨Nat.le_of_ble_eq_true rfl, Nat.le_of_ble_eq_true rfl⟩) hS (fun _ _ h => h) (fun _ h => h) (fun r_13 t9 H locs ht hvm h hB _ _ hS => ?_)
          refine W.cs (cells' := 0) (slots' := 0) rfl rfl ?_
          have hP := x_th ht hB
          have hP : va_P (dC, dI) vwCl (xw 7 ad (mc ad ci r_13)) H := hP
          exact W.vret hx hb hr (fun t ht hW => ⟨⟨r_13, rfl, h, x_ht ht hP⟩, hS.F ht⟩) hS.2.2 dX7_goesOn_104
      · have h := h.2 c_8
        refine lv_aload_n hx hb dX7_goesOn_67 rfl (lv_at hl 3 rfl) ?_
        refine lv_iload_n hx hb dX7_goesOn_68 rfl (lv_at hl 4 rfl) ?_
        refine lv_iconst (v := (0 : Int32)) hx hb dX7_goesOn_69 (by decide) ?_
        refine lv_lconst (v := (0 : Int64)) hx hb dX7_goesOn_70 (by decide) ?_
        refine va_callv (va_runV (As := [.int x1, .int (0 : Int32), .long (0 : Int64)]) (rest := []) ⟨hx, hb, C0.2.2.1, hown, hts⟩ (qX7_put l dC dI ad ci A hAD r x1 (0 : Int32) (0 : Int64) _ h) (cwV 3 hts gX7_goesOn_X7_put rfl rfl rfl (by decide +kernel) ⟨Nat.le_of_ble_eq_true rfl, Nat.le_of_ble_eq_true rfl⟩) ⟨xr_blind, xr_recv (r := (RX7, TX7, 9)) hK hP 0 (by decide) me_M rfl, xr_pre hP hK⟩ rfl rfl hl.1 rfl (lv_room (Nat.le_of_ble_eq_true rfl)) dX7_goesOn_71 ⟨Nat.le_of_ble_eq_true rfl, Nat.le_of_ble_eq_true rfl⟩) hS (fun _ _ h => h) (fun _ h => h) (fun r_14 t9 H locs ht hvm h hB _ _ hS => ?_)
        refine W.cs (cells' := 0) (slots' := 0) rfl rfl ?_
        have hP := x_th ht hB
        have hP : va_P (dC, dI) vwCl (xw 7 ad (mc ad ci r_14)) H := hP
        exact W.vret hx hb hr (fun t ht hW => ⟨⟨r_14, rfl, h, x_ht ht hP⟩, hS.F ht⟩) hS.2.2 dX7_goesOn_74
  · have h := h.2 c_2
    refine lv_lload hx hb dX7_goesOn_15 (lv_at hl 0 rfl) ?_
    refine lv_ldc2 (v := (4 : Int64)) hx hb hown (hts _ wX7_goesOn_k107) dX7_goesOn_17 ?_
    refine xr_if_lcmp_eq (tgt := 32) hx hb dX7_goesOn_20 dX7_goesOn_21 (by decide) (fun c_15 => ?_) (fun c_15 => ?_)
    · have h := h.1 c_15
      refine lv_aload_n hx hb dX7_goesOn_32 rfl (lv_at hl 1 rfl) ?_
      refine lv_iload_n hx hb dX7_goesOn_33 rfl (lv_at hl 2 rfl) ?_
      refine lv_bipush (v := (6 : Int32)) hx hb dX7_goesOn_34 (by decide) ?_
      refine va_calll (va_runV (As := [.int x1, .int (6 : Int32)]) (rest := []) ⟨hx, hb, C0.2.2.1, hown, hts⟩ (qX7_get l dC dI ad ci A hAD r x1 (6 : Int32) _ h) (cwV 2 hts gX7_goesOn_X7_get rfl rfl rfl (by decide +kernel) ⟨Nat.le_of_ble_eq_true rfl, Nat.le_of_ble_eq_true rfl⟩) ⟨xr_blind, xr_recv (r := (RX7, TX7, 9)) hK hP 0 (by decide) me_M rfl, xr_pre hP hK⟩ rfl rfl hl.1 rfl (lv_room (Nat.le_of_ble_eq_true rfl)) dX7_goesOn_36 ⟨Nat.le_of_ble_eq_true rfl, Nat.le_of_ble_eq_true rfl⟩) hS (fun _ _ h => h) (fun _ h => h) (fun r_16 _ t9 H locs ht hvm h hB _ _ hS => ?_)
      refine W.cs (cells' := 0) (slots' := 0) rfl rfl ?_
      have hP := x_th ht hB
      have hP : va_P (dC, dI) vwCl (xw 7 ad (mc ad ci r)) H := hP
      refine lv_lstore (lv' := [(6, .long r_16), (4, .long r_1), (0, .ref (ad 0)), (1, .int x1), (2, .long x2)]) hx hb dX7_goesOn_39 hl (by decide) rfl (fun ls hl => ?_)
      refine lv_lload_n hx hb dX7_goesOn_41 rfl (lv_at hl 4 rfl) ?_
      refine lv_aload_n hx hb dX7_goesOn_42 rfl (lv_at hl 2 rfl) ?_
      refine lv_iload_n hx hb dX7_goesOn_43 rfl (lv_at hl 3 rfl) ?_
      refine lv_iconst (v := (5 : Int32)) hx hb dX7_goesOn_44 (by decide) ?_
      refine va_calll (va_runV (As := [.int x1, .int (5 : Int32)]) (rest := [.long x2]) ⟨hx, hb, C0.2.2.1, hown, hts⟩ (qX7_get l dC dI ad ci A hAD r x1 (5 : Int32) _ h) (cwV 2 hts gX7_goesOn_X7_get rfl rfl rfl (by decide +kernel) ⟨Nat.le_of_ble_eq_true rfl, Nat.le_of_ble_eq_true rfl⟩) ⟨xr_blind, xr_recv (r := (RX7, TX7, 9)) hK hP 0 (by decide) me_M rfl, xr_pre hP hK⟩ rfl rfl hl.1 rfl (lv_room (Nat.le_of_ble_eq_true rfl)) dX7_goesOn_45 ⟨Nat.le_of_ble_eq_true rfl, Nat.le_of_ble_eq_true rfl⟩) hS (fun _ _ h => h) (fun _ h => h) (fun r_17 _ t9 H locs ht hvm h hB _ _ hS => ?_)
      refine W.cs (cells' := 0) (slots' := 0) rfl rfl ?_
      have hP := x_th ht hB
      have hP : va_P (dC, dI) vwCl (xw 7 ad (mc ad ci r)) H := hP
      refine lv_ladd hx hb dX7_goesOn_48 ?_
      refine lv_topl (fun x8_18 ex8_18 => ?_)
      have h := h x8_18 ex8_18
      refine lv_lstore (lv' := [(8, .long x8_18), (6, .long r_16), (4, .long r_1), (0, .ref (ad 0)), (1, .int x1), (2, .long x2)]) hx hb dX7_goesOn_49 hl (by decide) rfl (fun ls hl => ?_)
      refine lv_lload hx hb dX7_goesOn_51 (lv_at hl 1 rfl) ?_
      refine lv_lconst (v := (1 : Int64)) hx hb dX7_goesOn_53 (by decide) ?_
      refine xr_if_lcmp_eq (tgt := 67) hx hb dX7_goesOn_54 dX7_goesOn_55 (by decide) (fun c_19 => ?_) (fun c_19 => ?_)
      · have h := h.1 c_19
        refine lv_aload_n hx hb dX7_goesOn_67 rfl (lv_at hl 3 rfl) ?_
        refine lv_iload_n hx hb dX7_goesOn_68 rfl (lv_at hl 4 rfl) ?_
        refine lv_iconst (v := (0 : Int32)) hx hb dX7_goesOn_69 (by decide) ?_
        refine lv_lconst (v := (0 : Int64)) hx hb dX7_goesOn_70 (by decide) ?_
        refine va_callv (va_runV (As := [.int x1, .int (0 : Int32), .long (0 : Int64)]) (rest := []) ⟨hx, hb, C0.2.2.1, hown, hts⟩ (qX7_put l dC dI ad ci A hAD r x1 (0 : Int32) (0 : Int64) _ h) (cwV 3 hts gX7_goesOn_X7_put rfl rfl rfl (by decide +kernel) ⟨Nat.le_of_ble_eq_true rfl, Nat.le_of_ble_eq_true rfl⟩) ⟨xr_blind, xr_recv (r := (RX7, TX7, 9)) hK hP 0 (by decide) me_M rfl, xr_pre hP hK⟩ rfl rfl hl.1 rfl (lv_room (Nat.le_of_ble_eq_true rfl)) dX7_goesOn_71 ⟨Nat.le_of_ble_eq_true rfl, Nat.le_of_ble_eq_true rfl⟩) hS (fun _ _ h => h) (fun _ h => h) (fun r_20 t9 H locs ht hvm h hB _ _ hS => ?_)
        refine W.cs (cells' := 0) (slots' := 0) rfl rfl ?_
        have hP := x_th ht hB
        have hP : va_P (dC, dI) vwCl (xw 7 ad (mc ad ci r_20)) H := hP
        exact W.vret hx hb hr (fun t ht hW => ⟨⟨r_20, rfl, h, x_ht ht hP⟩, hS.F ht⟩) hS.2.2 dX7_goesOn_74
      · have h := h.2 c_19
        refine lv_lload hx hb dX7_goesOn_58 (lv_at hl 0 rfl) ?_
        refine lv_ldc2 (v := (1125899906842624 : Int64)) hx hb hown (hts _ wX7_goesOn_k67) dX7_goesOn_60 ?_
        refine xr_if_lcmp_le (tgt := 75) hx hb dX7_goesOn_63 dX7_goesOn_64 (by decide) (fun c_21 => ?_) (fun c_21 => ?_)
        · have h := h.1 c_21
          refine lv_aload_n hx hb dX7_goesOn_75 rfl (lv_at hl 3 rfl) ?_
          refine lv_iload_n hx hb dX7_goesOn_76 rfl (lv_at hl 4 rfl) ?_
          refine lv_bipush (v := (6 : Int32)) hx hb dX7_goesOn_77 (by decide) ?_
          refine lv_lload hx hb dX7_goesOn_79 (lv_at hl 1 rfl) ?_
          refine lv_lconst (v := (0 : Int64)) hx hb dX7_goesOn_81 (by decide) ?_
          refine xr_if_lcmp_ne (tgt := 90) hx hb dX7_goesOn_82 dX7_goesOn_83 (by decide) (fun c_22 => ?_) (fun c_22 => ?_)
          · have h := h.2 c_22
            refine lv_lload hx hb dX7_goesOn_90 (lv_at hl 1 rfl) ?_
            refine lv_lconst (v := (1 : Int64)) hx hb dX7_goesOn_92 (by decide) ?_
            refine lv_lsub hx hb dX7_goesOn_93 ?_
            refine va_callv (va_runV (As := [.int x1, .int (6 : Int32), .long (r_16 - (1 : Int64))]) (rest := []) ⟨hx, hb, C0.2.2.1, hown, hts⟩ (qX7_put l dC dI ad ci A hAD r x1 (6 : Int32) (r_16 - (1 : Int64)) _ h) (cwV 3 hts gX7_goesOn_X7_put rfl rfl rfl (by decide +kernel) ⟨Nat.le_of_ble_eq_true rfl, Nat.le_of_ble_eq_true rfl⟩) ⟨xr_blind, xr_recv (r := (RX7, TX7, 9)) hK hP 0 (by decide) me_M rfl, xr_pre hP hK⟩ rfl rfl hl.1 rfl (lv_room (Nat.le_of_ble_eq_true rfl)) dX7_goesOn_94 ⟨Nat.le_of_ble_eq_true rfl, Nat.le_of_ble_eq_true rfl⟩) hS (fun _ _ h => h) (fun _ h => h) (fun r_23 t9 H locs ht hvm h hB _ _ hS => ?_)
            refine W.cs (cells' := 0) (slots' := 0) rfl rfl ?_
            have hP := x_th ht hB
            have hP : va_P (dC, dI) vwCl (xw 7 ad (mc ad ci r_23)) H := hP
            refine lv_aload_n hx hb dX7_goesOn_97 rfl (lv_at hl 3 rfl) ?_
            refine lv_iload_n hx hb dX7_goesOn_98 rfl (lv_at hl 4 rfl) ?_
            refine lv_lload hx hb dX7_goesOn_99 (lv_at hl 0 rfl) ?_
            refine va_callv (va_runV (As := [.int x1, .long x8_18]) (rest := []) ⟨hx, hb, C0.2.2.1, hown, hts⟩ (qX7_tick l dC dI ad ci A hAD r_23 x1 x8_18 _ h) (cwV 2 hts gX7_goesOn_X7_tick rfl rfl rfl (by decide +kernel) ⟨Nat.le_of_ble_eq_true rfl, Nat.le_of_ble_eq_true rfl⟩) ⟨xr_blind, xr_recv (r := (RX7, TX7, 9)) hK hP 0 (by decide) me_M rfl, xr_pre hP hK⟩ rfl rfl hl.1 rfl (lv_room (Nat.le_of_ble_eq_true rfl)) dX7_goesOn_101 ⟨Nat.le_of_ble_eq_true rfl, Nat.le_of_ble_eq_true rfl⟩) hS (fun _ _ h => h) (fun _ h => h) (fun r_24 t9 H locs ht hvm h hB _ _ hS => ?_)
            refine W.cs (cells' := 0) (slots' := 0) rfl rfl ?_
            have hP := x_th ht hB
            have hP : va_P (dC, dI) vwCl (xw 7 ad (mc ad ci r_24)) H := hP
            exact W.vret hx hb hr (fun t ht hW => ⟨⟨r_24, rfl, h, x_ht ht hP⟩, hS.F ht⟩) hS.2.2 dX7_goesOn_104
          · have h := h.1 c_22
            refine lv_lconst (v := (0 : Int64)) hx hb dX7_goesOn_86 (by decide) ?_
            refine lv_goto (tgt := 94) hx hb dX7_goesOn_87 (by decide) ?_
            refine va_callv (va_runV (As := [.int x1, .int (6 : Int32), .long (0 : Int64)]) (rest := []) ⟨hx, hb, C0.2.2.1, hown, hts⟩ (qX7_put l dC dI ad ci A hAD r x1 (6 : Int32) (0 : Int64) _ h) (cwV 3 hts gX7_goesOn_X7_put rfl rfl rfl (by decide +kernel) ⟨Nat.le_of_ble_eq_true rfl, Nat.le_of_ble_eq_true rfl⟩) ⟨xr_blind, xr_recv (r := (RX7, TX7, 9)) hK hP 0 (by decide) me_M rfl, xr_pre hP hK⟩ rfl rfl hl.1 rfl (lv_room (Nat.le_of_ble_eq_true rfl)) dX7_goesOn_94 ⟨Nat.le_of_ble_eq_true rfl, Nat.le_of_ble_eq_true rfl⟩) hS (fun _ _ h => h) (fun _ h => h) (fun r_25 t9 H locs ht hvm h hB _ _ hS => ?_)
            refine W.cs (cells' := 0) (slots' := 0) rfl rfl ?_
            have hP := x_th ht hB
            have hP : va_P (dC, dI) vwCl (xw 7 ad (mc ad ci r_25)) H := hP
            refine lv_aload_n hx hb dX7_goesOn_97 rfl (lv_at hl 3 rfl) ?_
            refine lv_iload_n hx hb dX7_goesOn_98 rfl (lv_at hl 4 rfl) ?_
            refine lv_lload hx hb dX7_goesOn_99 (lv_at hl 0 rfl) ?_
            refine va_callv (va_runV (As := [.int x1, .long x8_18]) (rest := []) ⟨hx, hb, C0.2.2.1, hown, hts⟩ (qX7_tick l dC dI ad ci A hAD r_25 x1 x8_18 _ h) (cwV 2 hts gX7_goesOn_X7_tick rfl rfl rfl (by decide +kernel) ⟨Nat.le_of_ble_eq_true rfl, Nat.le_of_ble_eq_true rfl⟩) ⟨xr_blind, xr_recv (r := (RX7, TX7, 9)) hK hP 0 (by decide) me_M rfl, xr_pre hP hK⟩ rfl rfl hl.1 rfl (lv_room (Nat.le_of_ble_eq_true rfl)) dX7_goesOn_101 ⟨Nat.le_of_ble_eq_true rfl, Nat.le_of_ble_eq_true rfl⟩) hS (fun _ _ h => h) (fun _ h => h) (fun r_26 t9 H locs ht hvm h hB _ _ hS => ?_)
            refine W.cs (cells' := 0) (slots' := 0) rfl rfl ?_
            have hP := x_th ht hB
            have hP : va_P (dC, dI) vwCl (xw 7 ad (mc ad ci r_26)) H := hP
            exact W.vret hx hb hr (fun t ht hW => ⟨⟨r_26, rfl, h, x_ht ht hP⟩, hS.F ht⟩) hS.2.2 dX7_goesOn_104
        · have h := h.2 c_21
          refine lv_aload_n hx hb dX7_goesOn_67 rfl (lv_at hl 3 rfl) ?_
          refine lv_iload_n hx hb dX7_goesOn_68 rfl (lv_at hl 4 rfl) ?_
          refine lv_iconst (v := (0 : Int32)) hx hb dX7_goesOn_69 (by decide) ?_
          refine lv_lconst (v := (0 : Int64)) hx hb dX7_goesOn_70 (by decide) ?_
          refine va_callv (va_runV (As := [.int x1, .int (0 : Int32), .long (0 : Int64)]) (rest := []) ⟨hx, hb, C0.2.2.1, hown, hts⟩ (qX7_put l dC dI ad ci A hAD r x1 (0 : Int32) (0 : Int64) _ h) (cwV 3 hts gX7_goesOn_X7_put rfl rfl rfl (by decide +kernel) ⟨Nat.le_of_ble_eq_true rfl, Nat.le_of_ble_eq_true rfl⟩) ⟨xr_blind, xr_recv (r := (RX7, TX7, 9)) hK hP 0 (by decide) me_M rfl, xr_pre hP hK⟩ rfl rfl hl.1 rfl (lv_room (Nat.le_of_ble_eq_true rfl)) dX7_goesOn_71 ⟨Nat.le_of_ble_eq_true rfl, Nat.le_of_ble_eq_true rfl⟩) hS (fun _ _ h => h) (fun _ h => h) (fun r_27 t9 H locs ht hvm h hB _ _ hS => ?_)
          refine W.cs (cells' := 0) (slots' := 0) rfl rfl ?_
          have hP := x_th ht hB
          have hP : va_P (dC, dI) vwCl (xw 7 ad (mc ad ci r_27)) H := hP
          exact W.vret hx hb hr (fun t ht hW => ⟨⟨r_27, rfl, h, x_ht ht hP⟩, hS.F ht⟩) hS.2.2 dX7_goesOn_74
    · have h := h.2 c_15
      refine lv_aload_n hx hb dX7_goesOn_24 rfl (lv_at hl 1 rfl) ?_
      refine lv_iload_n hx hb dX7_goesOn_25 rfl (lv_at hl 2 rfl) ?_
      refine lv_iconst (v := (0 : Int32)) hx hb dX7_goesOn_26 (by decide) ?_
      refine lv_lconst (v := (0 : Int64)) hx hb dX7_goesOn_27 (by decide) ?_
      refine va_callv (va_runV (As := [.int x1, .int (0 : Int32), .long (0 : Int64)]) (rest := []) ⟨hx, hb, C0.2.2.1, hown, hts⟩ (qX7_put l dC dI ad ci A hAD r x1 (0 : Int32) (0 : Int64) _ h) (cwV 3 hts gX7_goesOn_X7_put rfl rfl rfl (by decide +kernel) ⟨Nat.le_of_ble_eq_true rfl, Nat.le_of_ble_eq_true rfl⟩) ⟨xr_blind, xr_recv (r := (RX7, TX7, 9)) hK hP 0 (by decide) me_M rfl, xr_pre hP hK⟩ rfl rfl hl.1 rfl (lv_room (Nat.le_of_ble_eq_true rfl)) dX7_goesOn_28 ⟨Nat.le_of_ble_eq_true rfl, Nat.le_of_ble_eq_true rfl⟩) hS (fun _ _ h => h) (fun _ h => h) (fun r_28 t9 H locs ht hvm h hB _ _ hS => ?_)
      refine W.cs (cells' := 0) (slots' := 0) rfl rfl ?_
      have hP := x_th ht hB
      have hP : va_P (dC, dI) vwCl (xw 7 ad (mc ad ci r_28)) H := hP
      exact W.vret hx hb hr (fun t ht hW => ⟨⟨r_28, rfl, h, x_ht ht hP⟩, hS.F ht⟩) hS.2.2 dX7_goesOn_31
abbrev rmX7_goAll : Room := { frames := 4, cells := 0, slots := 0, locals := 93 }
theorem wX7_goAll_k131 : Cond.constantLong RX7 131 (2800) ∈ wsX7_goAll := by decide +kernel
theorem wX7_goAll_k133 : Cond.constantLong RX7 133 (3) ∈ wsX7_goAll := by decide +kernel
theorem wX7_goAll_c7 : ∀ w ∈ u_ws RX7 TX7 9, w ∈ wsX7_goAll := by decide +kernel
theorem wX7_goAll_f7 : Cond.fieldLink RX7 7 "DueWheelsModel" "s" "[J" ∈ wsX7_goAll := by decide +kernel
theorem wX7_goAll_f16 : Cond.fieldLink RX7 16 "DueWheelsModel" "goers" "[I" ∈ wsX7_goAll := by decide +kernel
theorem wX7_goAll_f124 : Cond.fieldLink RX7 124 "DueWheelsModel" "goerCount" "I" ∈ wsX7_goAll := by decide +kernel
def LX7_goAll_2   (x1 : Int64)  (post : MmV → Prop) : Nat → Int32 → MmV → Prop
  | 0, _, _ => False
  | n + 1, x3, r => (((m_gc r) ≤ x3 → post r) ∧ (¬ (m_gc r) ≤ x3 → (vp_in x3 200 ∧ ∀ x4_3 : Int32, x4_3 = (m_gs r (x3.toNatClampNeg)) → ∀ x5_4 : Int32, x5_4 = (((2800 : Int64) + ((3 : Int64) * (m_s r 3702))).toInt32) → (vp_in x5_4 3705 ∧ (∀ r_6 : MmV, r_6 = m_ws r (vp_updL (m_s r) (x5_4.toNatClampNeg) (x4_3.toInt64)) → (vp_in (x5_4 + (1 : Int32)) 3705 ∧ (∀ r_8 : MmV, r_8 = m_ws r_6 (vp_updL (m_s r_6) ((x5_4 + (1 : Int32)).toNatClampNeg) x1) → (PX7_get r_8 x4_3 (2 : Int32) (fun (r_9 : Int64) => (vp_in (x5_4 + (2 : Int32)) 3705 ∧ (∀ r_11 : MmV, r_11 = m_ws r_8 (vp_updL (m_s r_8) ((x5_4 + (2 : Int32)).toNatClampNeg) r_9) → (∀ r_12 : MmV, r_12 = m_ws r_11 (vp_updL (m_s r_11) 3702 ((m_s r_11 3702) + (1 : Int64))) → (∀ r_13 : MmV, r_13 = m_ws r_12 (vp_updL (m_s r_12) 3703 ((m_s r_12 3703) + (1 : Int64))) → (PX7_tell r_13 x4_3 x1 (fun (r_14 : MmV) => (PX7_goesOn r_14 x4_3 x1 (fun (r_15 : MmV) => ∀ x3_16 : Int32, x3_16 = x3 + 1 → LX7_goAll_2  x1 post n x3_16 r_15)))))))))))))))))
set_option maxHeartbeats 4000000 in
set_option maxRecDepth 100000 in
theorem kX7_goAll_2 {p : Program} {e : Env} {s : State} {m : MethodId} {args : Array Value} {below : List Frame} {meth : Method} {c : Code} (l : Launch) (dC : Nat → ClassId) (dI : Nat → Nat → Nat) (ad : Nat → Nat) (ci : Nat → ClassId) (A : Nat → Prop) (hAD : xw_D 7 ad A)  (x1 : Int64)  (post : MmV → Prop) (C0 : xC p s m args meth c cX7_goAll 6 none RX7 wsX7_goAll (dC, dI) (xT ci)) : ∀ (n : Nat) (x3 : Int32) (r : MmV) (H : Heap) (locs : List Loc) (ls : Array Slot), LX7_goAll_2  x1 post n x3 r → va_P (dC, dI) vwCl (xw 7 ad (mc ad ci r)) H → va_S A s.heap H locs → lv_has ls 6 [(0, .ref (ad 0)), (1, .long x1), (3, .int x3)] → W p l e rmX7_goAll s m args below meth c H locs 0 0 (MQ below (va_Qv (fun u : MmV => post u) (fun u t => va_P (dC, dI) vwCl (xw 7 ad (mc ad ci u)) t.heap) A) args s 0 0 A) (F0 m 2 ls []) := by
  obtain ⟨hx, hb, -, hr, hlocks, hown, hts, hK⟩ := id C0
  intro n
  induction n with
  | zero =>
    intro x3 r H locs ls h
    exact False.elim h
  | succ n ih =>
    intro x3 r H locs ls h hP hS hl
    rw [LX7_goAll_2] at h
    refine lv_iload_n hx hb dX7_goAll_2 rfl (lv_at hl 2 rfl) ?_
    refine lv_aload_n hx hb dX7_goAll_3 rfl (lv_at hl 0 rfl) ?_
    refine xr_get (D := (dC, dI)) (C := RX7) (T := TX7) (N := 9) (v := .int (m_gc r)) hx hb hts wX7_goAll_c7 hown hK hP 0 (by decide) me_M rfl 4 (by decide) wX7_goAll_f124 rfl rfl dX7_goAll_4 ?_
    refine lv_icmp_ge (tgt := 117) hx hb dX7_goAll_7 (by decide) (fun c_1 => ?_) (fun c_1 => ?_)
    · have h := h.1 c_1
      exact W.vret hx hb hr (fun t ht hW => ⟨⟨r, rfl, h, x_ht ht hP⟩, hS.F ht⟩) hS.2.2 dX7_goAll_117
    · have h := h.2 c_1
      refine lv_aload_n hx hb dX7_goAll_10 rfl (lv_at hl 0 rfl) ?_
      refine xr_get (D := (dC, dI)) (C := RX7) (T := TX7) (N := 9) (v := .ref (ad 3)) hx hb hts wX7_goAll_c7 hown hK hP 0 (by decide) me_M rfl 3 (by decide) wX7_goAll_f16 rfl rfl dX7_goAll_11 ?_
      refine lv_iload_n hx hb dX7_goAll_14 rfl (lv_at hl 2 rfl) ?_
      obtain ⟨g_2, h⟩ := h
      refine xr_iald (k := x3.toNatClampNeg) hx hb hK hP 3 0 (by decide) me_gs rfl rfl g_2 dX7_goAll_15 ?_
      refine lv_topi (fun x4_3 ex4_3 => ?_)
      have h := h x4_3 ex4_3
      refine lv_istore (lv' := [(4, .int x4_3), (0, .ref (ad 0)), (1, .long x1), (3, .int x3)]) hx hb dX7_goAll_16 hl (by decide) rfl (fun ls hl => ?_)
      refine lv_ldc2 (v := (2800 : Int64)) hx hb hown (hts _ wX7_goAll_k131) dX7_goAll_18 ?_
      refine lv_ldc2 (v := (3 : Int64)) hx hb hown (hts _ wX7_goAll_k133) dX7_goAll_21 ?_
      refine lv_aload_n hx hb dX7_goAll_24 rfl (lv_at hl 1 rfl) ?_
      refine xr_get (D := (dC, dI)) (C := RX7) (T := TX7) (N := 9) (v := .ref (ad 1)) hx hb hts wX7_goAll_c7 hown hK hP 0 (by decide) me_M rfl 0 (by decide) wX7_goAll_f7 rfl rfl dX7_goAll_25 ?_
      refine lv_sipush (v := (3702 : Int32)) hx hb dX7_goAll_28 (by decide) ?_
      refine xr_lald (k := 3702) hx hb hK hP 1 1 (by decide) me_s rfl rfl (x_in _ _ (by decide)) dX7_goAll_31 ?_
      refine lv_lmul hx hb dX7_goAll_32 ?_
      refine lv_ladd hx hb dX7_goAll_33 ?_
      refine lv_l2i hx hb dX7_goAll_34 rfl ?_
      refine lv_topi (fun x5_4 ex5_4 => ?_)
      have h := h x5_4 ex5_4
      refine lv_istore (lv' := [(5, .int x5_4), (4, .int x4_3), (0, .ref (ad 0)), (1, .long x1), (3, .int x3)]) hx hb dX7_goAll_35 hl (by decide) rfl (fun ls hl => ?_)
      refine lv_aload_n hx hb dX7_goAll_37 rfl (lv_at hl 2 rfl) ?_
      refine xr_get (D := (dC, dI)) (C := RX7) (T := TX7) (N := 9) (v := .ref (ad 1)) hx hb hts wX7_goAll_c7 hown hK hP 0 (by decide) me_M rfl 0 (by decide) wX7_goAll_f7 rfl rfl dX7_goAll_38 ?_
      refine lv_iload hx hb dX7_goAll_41 (lv_at hl 0 rfl) ?_
      refine lv_iload hx hb dX7_goAll_43 (lv_at hl 1 rfl) ?_
      refine lv_i2l hx hb dX7_goAll_45 rfl ?_
      obtain ⟨g_5, h⟩ := h
      obtain ⟨r_6, er_6⟩ : ∃ z : MmV, z = m_ws r (vp_updL (m_s r) (x5_4.toNatClampNeg) (x4_3.toInt64)) := ⟨_, rfl⟩
      have h := h r_6 er_6
      refine xr_last (k := x5_4.toNatClampNeg) (x := (x4_3.toInt64)) (g := (mc ad ci r_6)) hx hb hK hP hAD hS 1 1 (by decide) me_s rfl rfl g_5 dX7_goAll_46 (by rw [er_6]; exact mg_s) (fun H locs hP hS => ?_)
      refine lv_aload_n hx hb dX7_goAll_47 rfl (lv_at hl 2 rfl) ?_
      refine xr_get (D := (dC, dI)) (C := RX7) (T := TX7) (N := 9) (v := .ref (ad 1)) hx hb hts wX7_goAll_c7 hown hK hP 0 (by decide) me_M rfl 0 (by decide) wX7_goAll_f7 rfl rfl dX7_goAll_48 ?_
      refine lv_iload hx hb dX7_goAll_51 (lv_at hl 0 rfl) ?_
      refine lv_iconst (v := (1 : Int32)) hx hb dX7_goAll_53 (by decide) ?_
      refine lv_iadd hx hb dX7_goAll_54 ?_
      refine lv_lload_n hx hb dX7_goAll_55 rfl (lv_at hl 3 rfl) ?_
      obtain ⟨g_7, h⟩ := h
      obtain ⟨r_8, er_8⟩ : ∃ z : MmV, z = m_ws r_6 (vp_updL (m_s r_6) ((x5_4 + (1 : Int32)).toNatClampNeg) x1) := ⟨_, rfl⟩
      have h := h r_8 er_8
      refine xr_last (k := (x5_4 + (1 : Int32)).toNatClampNeg) (x := x1) (g := (mc ad ci r_8)) hx hb hK hP hAD hS 1 1 (by decide) me_s rfl rfl g_7 dX7_goAll_56 (by rw [er_8]; exact mg_s) (fun H locs hP hS => ?_)
      refine lv_aload_n hx hb dX7_goAll_57 rfl (lv_at hl 2 rfl) ?_
      refine xr_get (D := (dC, dI)) (C := RX7) (T := TX7) (N := 9) (v := .ref (ad 1)) hx hb hts wX7_goAll_c7 hown hK hP 0 (by decide) me_M rfl 0 (by decide) wX7_goAll_f7 rfl rfl dX7_goAll_58 ?_
      refine lv_iload hx hb dX7_goAll_61 (lv_at hl 0 rfl) ?_
      refine lv_iconst (v := (2 : Int32)) hx hb dX7_goAll_63 (by decide) ?_
      refine lv_iadd hx hb dX7_goAll_64 ?_
      refine lv_aload_n hx hb dX7_goAll_65 rfl (lv_at hl 2 rfl) ?_
      refine lv_iload hx hb dX7_goAll_66 (lv_at hl 1 rfl) ?_
      refine lv_iconst (v := (2 : Int32)) hx hb dX7_goAll_68 (by decide) ?_
      refine va_calll (va_runV (As := [.int x4_3, .int (2 : Int32)]) (rest := [.int (x5_4 + (2 : Int32)), .ref (ad 1)]) ⟨hx, hb, C0.2.2.1, hown, hts⟩ (qX7_get l dC dI ad ci A hAD r_8 x4_3 (2 : Int32) _ h) (cwV 2 hts gX7_goAll_X7_get rfl rfl rfl (by decide +kernel) ⟨Nat.le_of_ble_eq_true rfl, Nat.le_of_ble_eq_true rfl⟩) ⟨xr_blind, xr_recv (r := (RX7, TX7, 9)) hK hP 0 (by decide) me_M rfl, xr_pre hP hK⟩ rfl rfl hl.1 rfl (lv_room (Nat.le_of_ble_eq_true rfl)) dX7_goAll_69 ⟨Nat.le_of_ble_eq_true rfl, Nat.le_of_ble_eq_true rfl⟩) hS (fun _ _ h => h) (fun _ h => h) (fun r_9 _ t9 H locs ht hvm h hB _ _ hS => ?_)
      refine W.cs (cells' := 0) (slots' := 0) rfl rfl ?_
      have hP := x_th ht hB
      have hP : va_P (dC, dI) vwCl (xw 7 ad (mc ad ci r_8)) H := hP
      obtain ⟨g_10, h⟩ := h
      obtain ⟨r_11, er_11⟩ : ∃ z : MmV, z = m_ws r_8 (vp_updL (m_s r_8) ((x5_4 + (2 : Int32)).toNatClampNeg) r_9) := ⟨_, rfl⟩
      have h := h r_11 er_11
      refine xr_last (k := (x5_4 + (2 : Int32)).toNatClampNeg) (x := r_9) (g := (mc ad ci r_11)) hx hb hK hP hAD hS 1 1 (by decide) me_s rfl rfl g_10 dX7_goAll_72 (by rw [er_11]; exact mg_s) (fun H locs hP hS => ?_)
      refine lv_aload_n hx hb dX7_goAll_73 rfl (lv_at hl 2 rfl) ?_
      refine xr_get (D := (dC, dI)) (C := RX7) (T := TX7) (N := 9) (v := .ref (ad 1)) hx hb hts wX7_goAll_c7 hown hK hP 0 (by decide) me_M rfl 0 (by decide) wX7_goAll_f7 rfl rfl dX7_goAll_74 ?_
      refine lv_sipush (v := (3702 : Int32)) hx hb dX7_goAll_77 (by decide) ?_
      refine lv_dup2_11 hx hb dX7_goAll_80 rfl rfl ?_
      refine xr_lald (k := 3702) hx hb hK hP 1 1 (by decide) me_s rfl rfl (x_in _ _ (by decide)) dX7_goAll_81 ?_
      refine lv_lconst (v := (1 : Int64)) hx hb dX7_goAll_82 (by decide) ?_
      refine lv_ladd hx hb dX7_goAll_83 ?_
      obtain ⟨r_12, er_12⟩ : ∃ z : MmV, z = m_ws r_11 (vp_updL (m_s r_11) 3702 ((m_s r_11 3702) + (1 : Int64))) := ⟨_, rfl⟩
      have h := h r_12 er_12
      refine xr_last (k := 3702) (x := ((m_s r_11 3702) + (1 : Int64))) (g := (mc ad ci r_12)) hx hb hK hP hAD hS 1 1 (by decide) me_s rfl rfl (x_in _ _ (by decide)) dX7_goAll_84 (by rw [er_12]; exact mg_s) (fun H locs hP hS => ?_)
      refine lv_aload_n hx hb dX7_goAll_85 rfl (lv_at hl 2 rfl) ?_
      refine xr_get (D := (dC, dI)) (C := RX7) (T := TX7) (N := 9) (v := .ref (ad 1)) hx hb hts wX7_goAll_c7 hown hK hP 0 (by decide) me_M rfl 0 (by decide) wX7_goAll_f7 rfl rfl dX7_goAll_86 ?_
      refine lv_sipush (v := (3703 : Int32)) hx hb dX7_goAll_89 (by decide) ?_
      refine lv_dup2_11 hx hb dX7_goAll_92 rfl rfl ?_
      refine xr_lald (k := 3703) hx hb hK hP 1 1 (by decide) me_s rfl rfl (x_in _ _ (by decide)) dX7_goAll_93 ?_
      refine lv_lconst (v := (1 : Int64)) hx hb dX7_goAll_94 (by decide) ?_
      refine lv_ladd hx hb dX7_goAll_95 ?_
      obtain ⟨r_13, er_13⟩ : ∃ z : MmV, z = m_ws r_12 (vp_updL (m_s r_12) 3703 ((m_s r_12 3703) + (1 : Int64))) := ⟨_, rfl⟩
      have h := h r_13 er_13
      refine xr_last (k := 3703) (x := ((m_s r_12 3703) + (1 : Int64))) (g := (mc ad ci r_13)) hx hb hK hP hAD hS 1 1 (by decide) me_s rfl rfl (x_in _ _ (by decide)) dX7_goAll_96 (by rw [er_13]; exact mg_s) (fun H locs hP hS => ?_)
      refine lv_aload_n hx hb dX7_goAll_97 rfl (lv_at hl 2 rfl) ?_
      refine lv_iload hx hb dX7_goAll_98 (lv_at hl 1 rfl) ?_
      refine lv_lload_n hx hb dX7_goAll_100 rfl (lv_at hl 3 rfl) ?_
      refine va_callv (va_runV (As := [.int x4_3, .long x1]) (rest := []) ⟨hx, hb, C0.2.2.1, hown, hts⟩ (qX7_tell l dC dI ad ci A hAD r_13 x4_3 x1 _ h) (cwV 2 hts gX7_goAll_X7_tell rfl rfl rfl (by decide +kernel) ⟨Nat.le_of_ble_eq_true rfl, Nat.le_of_ble_eq_true rfl⟩) ⟨xr_blind, xr_recv (r := (RX7, TX7, 9)) hK hP 0 (by decide) me_M rfl, xr_pre hP hK⟩ rfl rfl hl.1 rfl (lv_room (Nat.le_of_ble_eq_true rfl)) dX7_goAll_101 ⟨Nat.le_of_ble_eq_true rfl, Nat.le_of_ble_eq_true rfl⟩) hS (fun _ _ h => h) (fun _ h => h) (fun r_14 t9 H locs ht hvm h hB _ _ hS => ?_)
      refine W.cs (cells' := 0) (slots' := 0) rfl rfl ?_
      have hP := x_th ht hB
      have hP : va_P (dC, dI) vwCl (xw 7 ad (mc ad ci r_14)) H := hP
      refine lv_aload_n hx hb dX7_goAll_104 rfl (lv_at hl 2 rfl) ?_
      refine lv_iload hx hb dX7_goAll_105 (lv_at hl 1 rfl) ?_
      refine lv_lload_n hx hb dX7_goAll_107 rfl (lv_at hl 3 rfl) ?_
      refine va_callv (va_runV (As := [.int x4_3, .long x1]) (rest := []) ⟨hx, hb, C0.2.2.1, hown, hts⟩ (qX7_goesOn l dC dI ad ci A hAD r_14 x4_3 x1 _ h) (cwV 2 hts gX7_goAll_X7_goesOn rfl rfl rfl (by decide +kernel) ⟨Nat.le_of_ble_eq_true rfl, Nat.le_of_ble_eq_true rfl⟩) ⟨xr_blind, xr_recv (r := (RX7, TX7, 9)) hK hP 0 (by decide) me_M rfl, xr_pre hP hK⟩ rfl rfl hl.1 rfl (lv_room (Nat.le_of_ble_eq_true rfl)) dX7_goAll_108 ⟨Nat.le_of_ble_eq_true rfl, Nat.le_of_ble_eq_true rfl⟩) hS (fun _ _ h => h) (fun _ h => h) (fun r_15 t9 H locs ht hvm h hB _ _ hS => ?_)
      refine W.cs (cells' := 0) (slots' := 0) rfl rfl ?_
      have hP := x_th ht hB
      have hP : va_P (dC, dI) vwCl (xw 7 ad (mc ad ci r_15)) H := hP
      obtain ⟨x3_16, ex3_16⟩ : ∃ z : Int32, z = x3 + 1 := ⟨_, rfl⟩
      have h := h x3_16 ex3_16
      refine lv_iinc (v := x3_16) (lv' := [(3, .int x3_16), (5, .int x5_4), (4, .int x4_3), (0, .ref (ad 0)), (1, .long x1)]) hx hb dX7_goAll_111 hl (k := 4) rfl (by rw [ex3_16]; rfl) (by decide) rfl (fun ls hl => ?_)
      refine lv_goto (tgt := 2) hx hb dX7_goAll_114 (by decide) ?_
      exact ih x3_16 r_15 _ _ _ h hP hS (lv_sub hl [3, 4, 0] rfl)
def PX7_goAll  (r : MmV) (x1 : Int64) (post : MmV → Prop) : Prop :=
  (∃ n_17 : Nat, LX7_goAll_2  x1  post n_17 (0 : Int32) r)
set_option maxHeartbeats 4000000 in
set_option maxRecDepth 100000 in
theorem qX7_goAll (l : Launch) (dC : Nat → ClassId) (dI : Nat → Nat → Nat) (ad : Nat → Nat) (ci : Nat → ClassId) (A : Nat → Prop) (hAD : xw_D 7 ad A) (r : MmV) (x1 : Int64) (post : MmV → Prop) (h : PX7_goAll r x1 post) : Met l yX7_goAll wsX7_goAll rmX7_goAll (va_Pc [.ref (ad 0), .long x1] (fun U => va_P (dC, dI) vwCl (xw 7 ad (mc ad ci r)) U.heap ∧ va_K (dC, dI) vwCl (xT ci) U)) (va_Qv (fun u : MmV => post u) (fun u t => va_P (dC, dI) vwCl (xw 7 ad (mc ad ci u)) t.heap) A) 0 0 A := by
  refine Met.ofW (cc := cX7_goAll) (maxL := 6) (ret := none) (by decide) rfl ?_
  intro p e s m args below meth c s₁ B hml hv
  obtain ⟨eargs, hP, hK⟩ := hv
  have C0 : xC p s m args meth c cX7_goAll 6 none RX7 wsX7_goAll (dC, dI) (xT ci) := ⟨B.exec, B.bytes, hml, B.returns, B.notSynchronized, findClass_of_methodNamed B.named, atoms_spec (ws := wsX7_goAll) B.pre, hK⟩
  obtain ⟨hx, hb, -, hr, hlocks, hown, hts, -⟩ := id C0
  have hS : va_S A s.heap s.heap [] := va_S.rf
  have hl := lv_entry ([.ref (ad 0), .long x1]) (n := 6) (Nat.le_of_ble_eq_true rfl)
  have ef : entryFrame m args 6 = entryFrame m ([.ref (ad 0), .long x1] : List Value).toArray 6 := by rw [eargs]
  rw [ef, lg_entry_eq]
  generalize (lg_sl ([.ref (ad 0), .long x1]) ++ List.replicate (6 - (lg_sl ([.ref (ad 0), .long x1])).length) Slot.unset).toArray = ls at hl ⊢
  have hl : lv_has ls 6 [(0, .ref (ad 0)), (1, .long x1)] := hl
  have hP : va_P (dC, dI) vwCl (xw 7 ad (mc ad ci r)) s.heap := hP
  unfold PX7_goAll at h
  refine lv_iconst (v := (0 : Int32)) hx hb dX7_goAll_0 (by decide) ?_
  refine lv_istore_n (lv' := [(3, .int (0 : Int32)), (0, .ref (ad 0)), (1, .long x1)]) hx hb dX7_goAll_1 rfl hl (by decide) rfl (fun ls hl => ?_)
  obtain ⟨n_17, h⟩ := h
  exact kX7_goAll_2 l dC dI ad ci A hAD    x1  post C0  n_17 (0 : Int32) r _ _ _ h hP hS (lv_sub hl [1, 2, 0] rfl)
abbrev rmX7_go : Room := { frames := 5, cells := 0, slots := 0, locals := 118 }
theorem wX7_go_k141 : Cond.constantLong RX7 141 (1125899906842623) ∈ wsX7_go := by decide +kernel
theorem wX7_go_c7 : ∀ w ∈ u_ws RX7 TX7 9, w ∈ wsX7_go := by decide +kernel
theorem wX7_go_f7 : Cond.fieldLink RX7 7 "DueWheelsModel" "s" "[J" ∈ wsX7_go := by decide +kernel
theorem wX7_go_k151 : Cond.constantLong RX7 151 (300) ∈ wsX7_go := by decide +kernel
theorem wX7_go_f124 : Cond.fieldLink RX7 124 "DueWheelsModel" "goerCount" "I" ∈ wsX7_go := by decide +kernel
theorem wX7_go_k73 : Cond.constantLong RX7 73 (-2000000001) ∈ wsX7_go := by decide +kernel
def LX7_go_37   (x1 : Int64)  (post : Int64 → MmV → Prop) : Nat → Int32 → MmV → Prop
  | 0, _, _ => False
  | n + 1, x3, r => ((x3 = 0 → (PX7_pass r x1 (fun (r_6 : MmV) => post (m_s r_6 3700) r_6))) ∧ (¬ x3 = 0 → (PX7_nextTick r (fun (r_7 : Int64) => ((x1 < r_7 → LX7_go_37  x1 post n (0 : Int32) r) ∧ (¬ x1 < r_7 → (PX7_findAll r r_7 (fun (r_11 : MmV) => ((((m_s r_11 3702) + ((m_gc r_11).toInt64)) ≤ (300 : Int64) → (PX7_pass r_11 r_7 (fun (r_13 : MmV) => (PX7_goAll r_13 r_7 (fun (r_14 : MmV) => LX7_go_37  x1 post n (1 : Int32) r_14))))) ∧ (¬ ((m_s r_11 3702) + ((m_gc r_11).toInt64)) ≤ (300 : Int64) → (PX7_pass r_11 (r_7 - (1 : Int64)) (fun (r_15 : MmV) => post (m_s r_15 3700) r_15))))))))))))
set_option maxHeartbeats 4000000 in
set_option maxRecDepth 100000 in
theorem kX7_go_37 {p : Program} {e : Env} {s : State} {m : MethodId} {args : Array Value} {below : List Frame} {meth : Method} {c : Code} (l : Launch) (dC : Nat → ClassId) (dI : Nat → Nat → Nat) (ad : Nat → Nat) (ci : Nat → ClassId) (A : Nat → Prop) (hAD : xw_D 7 ad A)  (x1 : Int64)  (post : Int64 → MmV → Prop) (C0 : xC p s m args meth c cX7_go 6 (some .long) RX7 wsX7_go (dC, dI) (xT ci)) : ∀ (n : Nat) (x3 : Int32) (r : MmV) (H : Heap) (locs : List Loc) (ls : Array Slot), LX7_go_37  x1 post n x3 r → va_P (dC, dI) vwCl (xw 7 ad (mc ad ci r)) H → va_S A s.heap H locs → lv_has ls 6 [(0, .ref (ad 0)), (1, .long x1), (3, .int x3)] → W p l e rmX7_go s m args below meth c H locs 0 0 (MQ below (va_Ql (fun r9 (u : MmV) => post r9 u) (fun u t => va_P (dC, dI) vwCl (xw 7 ad (mc ad ci u)) t.heap) A) args s 0 0 A) (F0 m 37 ls []) := by
  obtain ⟨hx, hb, -, hr, hlocks, hown, hts, hK⟩ := id C0
  intro n
  induction n with
  | zero =>
    intro x3 r H locs ls h
    exact False.elim h
  | succ n ih =>
    intro x3 r H locs ls h hP hS hl
    rw [LX7_go_37] at h
    refine lv_iload_n hx hb dX7_go_37 rfl (lv_at hl 2 rfl) ?_
    refine lv_if_eq (tgt := 123) hx hb dX7_go_38 (by decide) (fun c_5 => ?_) (fun c_5 => ?_)
    · have h := h.1 c_5
      refine lv_aload_n hx hb dX7_go_123 rfl (lv_at hl 0 rfl) ?_
      refine lv_lload_n hx hb dX7_go_124 rfl (lv_at hl 1 rfl) ?_
      refine va_callv (va_runV (As := [.long x1]) (rest := []) ⟨hx, hb, C0.2.2.1, hown, hts⟩ (qX7_pass l dC dI ad ci A hAD r x1 _ h) (cwV 1 hts gX7_go_X7_pass rfl rfl rfl (by decide +kernel) ⟨Nat.le_of_ble_eq_true rfl, Nat.le_of_ble_eq_true rfl⟩) ⟨xr_blind, xr_recv (r := (RX7, TX7, 9)) hK hP 0 (by decide) me_M rfl, xr_pre hP hK⟩ rfl rfl hl.1 rfl (lv_room (Nat.le_of_ble_eq_true rfl)) dX7_go_125 ⟨Nat.le_of_ble_eq_true rfl, Nat.le_of_ble_eq_true rfl⟩) hS (fun _ _ h => h) (fun _ h => h) (fun r_6 t9 H locs ht hvm h hB _ _ hS => ?_)
      refine W.cs (cells' := 0) (slots' := 0) rfl rfl ?_
      have hP := x_th ht hB
      have hP : va_P (dC, dI) vwCl (xw 7 ad (mc ad ci r_6)) H := hP
      refine lv_aload_n hx hb dX7_go_128 rfl (lv_at hl 0 rfl) ?_
      refine xr_get (D := (dC, dI)) (C := RX7) (T := TX7) (N := 9) (v := .ref (ad 1)) hx hb hts wX7_go_c7 hown hK hP 0 (by decide) me_M rfl 0 (by decide) wX7_go_f7 rfl rfl dX7_go_129 ?_
      refine lv_sipush (v := (3700 : Int32)) hx hb dX7_go_132 (by decide) ?_
      refine xr_lald (k := 3700) hx hb hK hP 1 1 (by decide) me_s rfl rfl (x_in _ _ (by decide)) dX7_go_135 ?_
      exact W.lret (v := (m_s r_6 3700)) hx hb hr (fun t ht hW => ⟨⟨(m_s r_6 3700), r_6, rfl, h, x_ht ht hP⟩, hS.F ht⟩) hS.2.2 dX7_go_136
    · have h := h.2 c_5
      refine lv_aload_n hx hb dX7_go_41 rfl (lv_at hl 0 rfl) ?_
      refine va_calll (va_runV (As := []) (rest := []) ⟨hx, hb, C0.2.2.1, hown, hts⟩ (qX7_nextTick l dC dI ad ci A hAD r  _ h) (cwV 0 hts gX7_go_X7_nextTick rfl rfl rfl (by decide +kernel) ⟨Nat.le_of_ble_eq_true rfl, Nat.le_of_ble_eq_true rfl⟩) ⟨xr_blind, xr_recv (r := (RX7, TX7, 9)) hK hP 0 (by decide) me_M rfl, xr_pre hP hK⟩ rfl rfl hl.1 rfl (lv_room (Nat.le_of_ble_eq_true rfl)) dX7_go_42 ⟨Nat.le_of_ble_eq_true rfl, Nat.le_of_ble_eq_true rfl⟩) hS (fun _ _ h => h) (fun _ h => h) (fun r_7 _ t9 H locs ht hvm h hB _ _ hS => ?_)
      refine W.cs (cells' := 0) (slots' := 0) rfl rfl ?_
      have hP := x_th ht hB
      have hP : va_P (dC, dI) vwCl (xw 7 ad (mc ad ci r)) H := hP
      refine lv_lstore (lv' := [(4, .long r_7), (0, .ref (ad 0)), (1, .long x1), (3, .int x3)]) hx hb dX7_go_45 hl (by decide) rfl (fun ls hl => ?_)
      refine lv_lload hx hb dX7_go_47 (lv_at hl 0 rfl) ?_
      refine lv_lload_n hx hb dX7_go_49 rfl (lv_at hl 2 rfl) ?_
      refine xr_if_lcmp_gt (tgt := 58) hx hb dX7_go_50 dX7_go_51 (by decide) (fun c_8 => ?_) (fun c_8 => ?_)
      · have h := h.1 c_8
        refine lv_iconst (v := (0 : Int32)) hx hb dX7_go_58 (by decide) ?_
        refine lv_istore_n (lv' := [(3, .int (0 : Int32)), (4, .long r_7), (0, .ref (ad 0)), (1, .long x1)]) hx hb dX7_go_59 rfl hl (by decide) rfl (fun ls hl => ?_)
        refine lv_iload_n hx hb dX7_go_60 rfl (lv_at hl 0 rfl) ?_
        refine lv_if_eq (tgt := 120) hx hb dX7_go_61 (by decide) (fun c_9 => ?_) (fun c_9 => ?_)
        · refine lv_goto (tgt := 37) hx hb dX7_go_120 (by decide) ?_
          exact ih (0 : Int32) r _ _ _ h hP hS (lv_sub hl [2, 3, 0] rfl)
        · exact absurd c_9 (by decide)
      · have h := h.2 c_8
        refine lv_iconst (v := (1 : Int32)) hx hb dX7_go_54 (by decide) ?_
        refine lv_goto (tgt := 59) hx hb dX7_go_55 (by decide) ?_
        refine lv_istore_n (lv' := [(3, .int (1 : Int32)), (4, .long r_7), (0, .ref (ad 0)), (1, .long x1)]) hx hb dX7_go_59 rfl hl (by decide) rfl (fun ls hl => ?_)
        refine lv_iload_n hx hb dX7_go_60 rfl (lv_at hl 0 rfl) ?_
        refine lv_if_eq (tgt := 120) hx hb dX7_go_61 (by decide) (fun c_10 => ?_) (fun c_10 => ?_)
        · exact absurd c_10 (by decide)
        · refine lv_aload_n hx hb dX7_go_64 rfl (lv_at hl 2 rfl) ?_
          refine lv_lload hx hb dX7_go_65 (lv_at hl 1 rfl) ?_
          refine va_callv (va_runV (As := [.long r_7]) (rest := []) ⟨hx, hb, C0.2.2.1, hown, hts⟩ (qX7_findAll l dC dI ad ci A hAD r r_7 _ h) (cwV 1 hts gX7_go_X7_findAll rfl rfl rfl (by decide +kernel) ⟨Nat.le_of_ble_eq_true rfl, Nat.le_of_ble_eq_true rfl⟩) ⟨xr_blind, xr_recv (r := (RX7, TX7, 9)) hK hP 0 (by decide) me_M rfl, xr_pre hP hK⟩ rfl rfl hl.1 rfl (lv_room (Nat.le_of_ble_eq_true rfl)) dX7_go_67 ⟨Nat.le_of_ble_eq_true rfl, Nat.le_of_ble_eq_true rfl⟩) hS (fun _ _ h => h) (fun _ h => h) (fun r_11 t9 H locs ht hvm h hB _ _ hS => ?_)
          refine W.cs (cells' := 0) (slots' := 0) rfl rfl ?_
          have hP := x_th ht hB
          have hP : va_P (dC, dI) vwCl (xw 7 ad (mc ad ci r_11)) H := hP
          refine lv_aload_n hx hb dX7_go_70 rfl (lv_at hl 2 rfl) ?_
          refine xr_get (D := (dC, dI)) (C := RX7) (T := TX7) (N := 9) (v := .ref (ad 1)) hx hb hts wX7_go_c7 hown hK hP 0 (by decide) me_M rfl 0 (by decide) wX7_go_f7 rfl rfl dX7_go_71 ?_
          refine lv_sipush (v := (3702 : Int32)) hx hb dX7_go_74 (by decide) ?_
          refine xr_lald (k := 3702) hx hb hK hP 1 1 (by decide) me_s rfl rfl (x_in _ _ (by decide)) dX7_go_77 ?_
          refine lv_aload_n hx hb dX7_go_78 rfl (lv_at hl 2 rfl) ?_
          refine xr_get (D := (dC, dI)) (C := RX7) (T := TX7) (N := 9) (v := .int (m_gc r_11)) hx hb hts wX7_go_c7 hown hK hP 0 (by decide) me_M rfl 4 (by decide) wX7_go_f124 rfl rfl dX7_go_79 ?_
          refine lv_i2l hx hb dX7_go_82 rfl ?_
          refine lv_ladd hx hb dX7_go_83 ?_
          refine lv_ldc2 (v := (300 : Int64)) hx hb hown (hts _ wX7_go_k151) dX7_go_84 ?_
          refine xr_if_lcmp_le (tgt := 108) hx hb dX7_go_87 dX7_go_88 (by decide) (fun c_12 => ?_) (fun c_12 => ?_)
          · have h := h.1 c_12
            refine lv_aload_n hx hb dX7_go_108 rfl (lv_at hl 2 rfl) ?_
            refine lv_lload hx hb dX7_go_109 (lv_at hl 1 rfl) ?_
            refine va_callv (va_runV (As := [.long r_7]) (rest := []) ⟨hx, hb, C0.2.2.1, hown, hts⟩ (qX7_pass l dC dI ad ci A hAD r_11 r_7 _ h) (cwV 1 hts gX7_go_X7_pass rfl rfl rfl (by decide +kernel) ⟨Nat.le_of_ble_eq_true rfl, Nat.le_of_ble_eq_true rfl⟩) ⟨xr_blind, xr_recv (r := (RX7, TX7, 9)) hK hP 0 (by decide) me_M rfl, xr_pre hP hK⟩ rfl rfl hl.1 rfl (lv_room (Nat.le_of_ble_eq_true rfl)) dX7_go_111 ⟨Nat.le_of_ble_eq_true rfl, Nat.le_of_ble_eq_true rfl⟩) hS (fun _ _ h => h) (fun _ h => h) (fun r_13 t9 H locs ht hvm h hB _ _ hS => ?_)
            refine W.cs (cells' := 0) (slots' := 0) rfl rfl ?_
            have hP := x_th ht hB
            have hP : va_P (dC, dI) vwCl (xw 7 ad (mc ad ci r_13)) H := hP
            refine lv_aload_n hx hb dX7_go_114 rfl (lv_at hl 2 rfl) ?_
            refine lv_lload hx hb dX7_go_115 (lv_at hl 1 rfl) ?_
            refine va_callv (va_runV (As := [.long r_7]) (rest := []) ⟨hx, hb, C0.2.2.1, hown, hts⟩ (qX7_goAll l dC dI ad ci A hAD r_13 r_7 _ h) (cwV 1 hts gX7_go_X7_goAll rfl rfl rfl (by decide +kernel) ⟨Nat.le_of_ble_eq_true rfl, Nat.le_of_ble_eq_true rfl⟩) ⟨xr_blind, xr_recv (r := (RX7, TX7, 9)) hK hP 0 (by decide) me_M rfl, xr_pre hP hK⟩ rfl rfl hl.1 rfl (lv_room (Nat.le_of_ble_eq_true rfl)) dX7_go_117 ⟨Nat.le_of_ble_eq_true rfl, Nat.le_of_ble_eq_true rfl⟩) hS (fun _ _ h => h) (fun _ h => h) (fun r_14 t9 H locs ht hvm h hB _ _ hS => ?_)
            refine W.cs (cells' := 0) (slots' := 0) rfl rfl ?_
            have hP := x_th ht hB
            have hP : va_P (dC, dI) vwCl (xw 7 ad (mc ad ci r_14)) H := hP
            refine lv_goto (tgt := 37) hx hb dX7_go_120 (by decide) ?_
            exact ih (1 : Int32) r_14 _ _ _ h hP hS (lv_sub hl [2, 3, 0] rfl)
          · have h := h.2 c_12
            refine lv_aload_n hx hb dX7_go_91 rfl (lv_at hl 2 rfl) ?_
            refine lv_lload hx hb dX7_go_92 (lv_at hl 1 rfl) ?_
            refine lv_lconst (v := (1 : Int64)) hx hb dX7_go_94 (by decide) ?_
            refine lv_lsub hx hb dX7_go_95 ?_
            refine va_callv (va_runV (As := [.long (r_7 - (1 : Int64))]) (rest := []) ⟨hx, hb, C0.2.2.1, hown, hts⟩ (qX7_pass l dC dI ad ci A hAD r_11 (r_7 - (1 : Int64)) _ h) (cwV 1 hts gX7_go_X7_pass rfl rfl rfl (by decide +kernel) ⟨Nat.le_of_ble_eq_true rfl, Nat.le_of_ble_eq_true rfl⟩) ⟨xr_blind, xr_recv (r := (RX7, TX7, 9)) hK hP 0 (by decide) me_M rfl, xr_pre hP hK⟩ rfl rfl hl.1 rfl (lv_room (Nat.le_of_ble_eq_true rfl)) dX7_go_96 ⟨Nat.le_of_ble_eq_true rfl, Nat.le_of_ble_eq_true rfl⟩) hS (fun _ _ h => h) (fun _ h => h) (fun r_15 t9 H locs ht hvm h hB _ _ hS => ?_)
            refine W.cs (cells' := 0) (slots' := 0) rfl rfl ?_
            have hP := x_th ht hB
            have hP : va_P (dC, dI) vwCl (xw 7 ad (mc ad ci r_15)) H := hP
            refine lv_aload_n hx hb dX7_go_99 rfl (lv_at hl 2 rfl) ?_
            refine xr_get (D := (dC, dI)) (C := RX7) (T := TX7) (N := 9) (v := .ref (ad 1)) hx hb hts wX7_go_c7 hown hK hP 0 (by decide) me_M rfl 0 (by decide) wX7_go_f7 rfl rfl dX7_go_100 ?_
            refine lv_sipush (v := (3700 : Int32)) hx hb dX7_go_103 (by decide) ?_
            refine xr_lald (k := 3700) hx hb hK hP 1 1 (by decide) me_s rfl rfl (x_in _ _ (by decide)) dX7_go_106 ?_
            exact W.lret (v := (m_s r_15 3700)) hx hb hr (fun t ht hW => ⟨⟨(m_s r_15 3700), r_15, rfl, h, x_ht ht hP⟩, hS.F ht⟩) hS.2.2 dX7_go_107
def PX7_go  (r : MmV) (x1 : Int64) (post : Int64 → MmV → Prop) : Prop :=
  (PX7_isIn x1 (m_s r 3700) (1125899906842623 : Int64) (fun (r_1 : Int32) => ((r_1 = 0 → post (-2000000001 : Int64) r) ∧ (¬ r_1 = 0 → (PX7_keep r (fun (r_3 : MmV) => (∀ r_4 : MmV, r_4 = m_ws r_3 (vp_updL (m_s r_3) 3702 (0 : Int64)) → (∃ n_16 : Nat, LX7_go_37  x1  post n_16 (1 : Int32) r_4))))))))
set_option maxHeartbeats 4000000 in
set_option maxRecDepth 100000 in
theorem qX7_go (l : Launch) (dC : Nat → ClassId) (dI : Nat → Nat → Nat) (ad : Nat → Nat) (ci : Nat → ClassId) (A : Nat → Prop) (hAD : xw_D 7 ad A) (r : MmV) (x1 : Int64) (post : Int64 → MmV → Prop) (h : PX7_go r x1 post) : Met l yX7_go wsX7_go rmX7_go (va_Pc [.ref (ad 0), .long x1] (fun U => va_P (dC, dI) vwCl (xw 7 ad (mc ad ci r)) U.heap ∧ va_K (dC, dI) vwCl (xT ci) U)) (va_Ql (fun r9 (u : MmV) => post r9 u) (fun u t => va_P (dC, dI) vwCl (xw 7 ad (mc ad ci u)) t.heap) A) 0 0 A := by
  refine Met.ofW (cc := cX7_go) (maxL := 6) (ret := (some .long)) (by decide) rfl ?_
  intro p e s m args below meth c s₁ B hml hv
  obtain ⟨eargs, hP, hK⟩ := hv
  have C0 : xC p s m args meth c cX7_go 6 (some .long) RX7 wsX7_go (dC, dI) (xT ci) := ⟨B.exec, B.bytes, hml, B.returns, B.notSynchronized, findClass_of_methodNamed B.named, atoms_spec (ws := wsX7_go) B.pre, hK⟩
  obtain ⟨hx, hb, -, hr, hlocks, hown, hts, -⟩ := id C0
  have hS : va_S A s.heap s.heap [] := va_S.rf
  have hl := lv_entry ([.ref (ad 0), .long x1]) (n := 6) (Nat.le_of_ble_eq_true rfl)
  have ef : entryFrame m args 6 = entryFrame m ([.ref (ad 0), .long x1] : List Value).toArray 6 := by rw [eargs]
  rw [ef, lg_entry_eq]
  generalize (lg_sl ([.ref (ad 0), .long x1]) ++ List.replicate (6 - (lg_sl ([.ref (ad 0), .long x1])).length) Slot.unset).toArray = ls at hl ⊢
  have hl : lv_has ls 6 [(0, .ref (ad 0)), (1, .long x1)] := hl
  have hP : va_P (dC, dI) vwCl (xw 7 ad (mc ad ci r)) s.heap := hP
  unfold PX7_go at h
  refine lv_lload_n hx hb dX7_go_0 rfl (lv_at hl 1 rfl) ?_
  refine lv_aload_n hx hb dX7_go_1 rfl (lv_at hl 0 rfl) ?_
  refine xr_get (D := (dC, dI)) (C := RX7) (T := TX7) (N := 9) (v := .ref (ad 1)) hx hb hts wX7_go_c7 hown hK hP 0 (by decide) me_M rfl 0 (by decide) wX7_go_f7 rfl rfl dX7_go_2 ?_
  refine lv_sipush (v := (3700 : Int32)) hx hb dX7_go_5 (by decide) ?_
  refine xr_lald (k := 3700) hx hb hK hP 1 1 (by decide) me_s rfl rfl (x_in _ _ (by decide)) dX7_go_8 ?_
  refine lv_ldc2 (v := (1125899906842623 : Int64)) hx hb hown (hts _ wX7_go_k141) dX7_go_9 ?_
  refine va_calli (va_runS (As := [.long x1, .long (m_s r 3700), .long (1125899906842623 : Int64)]) (rest := []) ⟨hx, hb, C0.2.2.1, hown, hts⟩ (qX7_isIn l dC dI 7 ad (mc ad ci r) (xT ci) A x1 (m_s r 3700) (1125899906842623 : Int64) _ h) (va_cwS 3 hts gX7_go_X7_isIn rfl rfl rfl (by decide +kernel) ⟨Nat.le_of_ble_eq_true rfl, Nat.le_of_ble_eq_true rfl⟩) ⟨xr_blind, xr_pre hP hK⟩ rfl rfl hl.1 rfl (lv_room (Nat.le_of_ble_eq_true rfl)) dX7_go_12 ⟨Nat.le_of_ble_eq_true rfl, Nat.le_of_ble_eq_true rfl⟩) hS (fun _ _ h => h) (fun _ h => h) (fun r_1 _ t9 H locs ht hvm h hB _ _ hS => ?_)
  refine W.cs (cells' := 0) (slots' := 0) rfl rfl ?_
  have hP := x_th ht hB
  have hP : va_P (dC, dI) vwCl (xw 7 ad (mc ad ci r)) H := hP
  refine lv_if_ne (tgt := 22) hx hb dX7_go_15 (by decide) (fun c_2 => ?_) (fun c_2 => ?_)
  · have h := h.2 c_2
    refine lv_aload_n hx hb dX7_go_22 rfl (lv_at hl 0 rfl) ?_
    refine va_callv (va_runV (As := []) (rest := []) ⟨hx, hb, C0.2.2.1, hown, hts⟩ (qX7_keep l dC dI ad ci A hAD r  _ h) (cwV 0 hts gX7_go_X7_keep rfl rfl rfl (by decide +kernel) ⟨Nat.le_of_ble_eq_true rfl, Nat.le_of_ble_eq_true rfl⟩) ⟨xr_blind, xr_recv (r := (RX7, TX7, 9)) hK hP 0 (by decide) me_M rfl, xr_pre hP hK⟩ rfl rfl hl.1 rfl (lv_room (Nat.le_of_ble_eq_true rfl)) dX7_go_23 ⟨Nat.le_of_ble_eq_true rfl, Nat.le_of_ble_eq_true rfl⟩) hS (fun _ _ h => h) (fun _ h => h) (fun r_3 t9 H locs ht hvm h hB _ _ hS => ?_)
    refine W.cs (cells' := 0) (slots' := 0) rfl rfl ?_
    have hP := x_th ht hB
    have hP : va_P (dC, dI) vwCl (xw 7 ad (mc ad ci r_3)) H := hP
    refine lv_aload_n hx hb dX7_go_26 rfl (lv_at hl 0 rfl) ?_
    refine xr_get (D := (dC, dI)) (C := RX7) (T := TX7) (N := 9) (v := .ref (ad 1)) hx hb hts wX7_go_c7 hown hK hP 0 (by decide) me_M rfl 0 (by decide) wX7_go_f7 rfl rfl dX7_go_27 ?_
    refine lv_sipush (v := (3702 : Int32)) hx hb dX7_go_30 (by decide) ?_
    refine lv_lconst (v := (0 : Int64)) hx hb dX7_go_33 (by decide) ?_
    obtain ⟨r_4, er_4⟩ : ∃ z : MmV, z = m_ws r_3 (vp_updL (m_s r_3) 3702 (0 : Int64)) := ⟨_, rfl⟩
    have h := h r_4 er_4
    refine xr_last (k := 3702) (x := (0 : Int64)) (g := (mc ad ci r_4)) hx hb hK hP hAD hS 1 1 (by decide) me_s rfl rfl (x_in _ _ (by decide)) dX7_go_34 (by rw [er_4]; exact mg_s) (fun H locs hP hS => ?_)
    refine lv_iconst (v := (1 : Int32)) hx hb dX7_go_35 (by decide) ?_
    refine lv_istore_n (lv' := [(3, .int (1 : Int32)), (0, .ref (ad 0)), (1, .long x1)]) hx hb dX7_go_36 rfl hl (by decide) rfl (fun ls hl => ?_)
    obtain ⟨n_16, h⟩ := h
    exact kX7_go_37 l dC dI ad ci A hAD    x1  post C0  n_16 (1 : Int32) r_4 _ _ _ h hP hS (lv_sub hl [1, 2, 0] rfl)
  · have h := h.1 c_2
    refine lv_ldc2 (v := (-2000000001 : Int64)) hx hb hown (hts _ wX7_go_k73) dX7_go_18 ?_
    exact W.lret (v := (-2000000001 : Int64)) hx hb hr (fun t ht hW => ⟨⟨(-2000000001 : Int64), r, rfl, h, x_ht ht hP⟩, hS.F ht⟩) hS.2.2 dX7_go_21
abbrev rmX7_went : Room := { frames := 1, cells := 0, slots := 0, locals := 25 }
theorem wX7_went_k73 : Cond.constantLong RX7 73 (-2000000001) ∈ wsX7_went := by decide +kernel
theorem wX7_went_k99 : Cond.constantLong RX7 99 (2) ∈ wsX7_went := by decide +kernel
theorem wX7_went_k48 : Cond.constantLong RX7 48 (-2000000005) ∈ wsX7_went := by decide +kernel
theorem wX7_went_c7 : ∀ w ∈ u_ws RX7 TX7 9, w ∈ wsX7_went := by decide +kernel
theorem wX7_went_f7 : Cond.fieldLink RX7 7 "DueWheelsModel" "s" "[J" ∈ wsX7_went := by decide +kernel
def PX7_went  (r : MmV) (x1 : Int32) (x2 : Int32) (post : Int64 → Prop) : Prop :=
  ((x1 < 0 → post (-2000000001 : Int64)) ∧ (¬ x1 < 0 → (PX7_isIn (x2.toInt64) (0 : Int64) (2 : Int64) (fun (r_2 : Int32) => ((r_2 = 0 → post (-2000000001 : Int64)) ∧ (¬ r_2 = 0 → (((m_s r 3702) ≤ (x1.toInt64) → post (-2000000005 : Int64)) ∧ (¬ (m_s r 3702) ≤ (x1.toInt64) → (vp_in (((2800 : Int32) + ((3 : Int32) * x1)) + x2) 3705 ∧ post (m_s r ((((2800 : Int32) + ((3 : Int32) * x1)) + x2).toNatClampNeg)))))))))))
set_option maxHeartbeats 4000000 in
set_option maxRecDepth 100000 in
theorem qX7_went (l : Launch) (dC : Nat → ClassId) (dI : Nat → Nat → Nat) (ad : Nat → Nat) (ci : Nat → ClassId) (A : Nat → Prop) (hAD : xw_D 7 ad A) (r : MmV) (x1 : Int32) (x2 : Int32) (post : Int64 → Prop) (h : PX7_went r x1 x2 post) : Met l yX7_went wsX7_went rmX7_went (va_Pc [.ref (ad 0), .int x1, .int x2] (fun U => va_P (dC, dI) vwCl (xw 7 ad (mc ad ci r)) U.heap ∧ va_K (dC, dI) vwCl (xT ci) U)) (va_Ql (fun r9 (u : Unit) => post r9 ) (fun u t => va_P (dC, dI) vwCl (xw 7 ad (mc ad ci r)) t.heap) A) 0 0 A := by
  refine Met.ofW (cc := cX7_went) (maxL := 3) (ret := (some .long)) (by decide) rfl ?_
  intro p e s m args below meth c s₁ B hml hv
  obtain ⟨eargs, hP, hK⟩ := hv
  have C0 : xC p s m args meth c cX7_went 3 (some .long) RX7 wsX7_went (dC, dI) (xT ci) := ⟨B.exec, B.bytes, hml, B.returns, B.notSynchronized, findClass_of_methodNamed B.named, atoms_spec (ws := wsX7_went) B.pre, hK⟩
  obtain ⟨hx, hb, -, hr, hlocks, hown, hts, -⟩ := id C0
  have hS : va_S A s.heap s.heap [] := va_S.rf
  have hl := lv_entry ([.ref (ad 0), .int x1, .int x2]) (n := 3) (Nat.le_of_ble_eq_true rfl)
  have ef : entryFrame m args 3 = entryFrame m ([.ref (ad 0), .int x1, .int x2] : List Value).toArray 3 := by rw [eargs]
  rw [ef, lg_entry_eq]
  generalize (lg_sl ([.ref (ad 0), .int x1, .int x2]) ++ List.replicate (3 - (lg_sl ([.ref (ad 0), .int x1, .int x2])).length) Slot.unset).toArray = ls at hl ⊢
  have hl : lv_has ls 3 [(0, .ref (ad 0)), (1, .int x1), (2, .int x2)] := hl
  have hP : va_P (dC, dI) vwCl (xw 7 ad (mc ad ci r)) s.heap := hP
  unfold PX7_went at h
  refine lv_iload_n hx hb dX7_went_0 rfl (lv_at hl 1 rfl) ?_
  refine lv_if_lt (tgt := 16) hx hb dX7_went_1 (by decide) (fun c_1 => ?_) (fun c_1 => ?_)
  · have h := h.1 c_1
    refine lv_ldc2 (v := (-2000000001 : Int64)) hx hb hown (hts _ wX7_went_k73) dX7_went_16 ?_
    exact W.lret (v := (-2000000001 : Int64)) hx hb hr (fun t ht hW => ⟨⟨(-2000000001 : Int64), (), rfl, h, x_ht ht hP⟩, hS.F ht⟩) hS.2.2 dX7_went_19
  · have h := h.2 c_1
    refine lv_iload_n hx hb dX7_went_4 rfl (lv_at hl 2 rfl) ?_
    refine lv_i2l hx hb dX7_went_5 rfl ?_
    refine lv_lconst (v := (0 : Int64)) hx hb dX7_went_6 (by decide) ?_
    refine lv_ldc2 (v := (2 : Int64)) hx hb hown (hts _ wX7_went_k99) dX7_went_7 ?_
    refine va_calli (va_runS (As := [.long (x2.toInt64), .long (0 : Int64), .long (2 : Int64)]) (rest := []) ⟨hx, hb, C0.2.2.1, hown, hts⟩ (qX7_isIn l dC dI 7 ad (mc ad ci r) (xT ci) A (x2.toInt64) (0 : Int64) (2 : Int64) _ h) (va_cwS 3 hts gX7_went_X7_isIn rfl rfl rfl (by decide +kernel) ⟨Nat.le_of_ble_eq_true rfl, Nat.le_of_ble_eq_true rfl⟩) ⟨xr_blind, xr_pre hP hK⟩ rfl rfl hl.1 rfl (lv_room (Nat.le_of_ble_eq_true rfl)) dX7_went_10 ⟨Nat.le_of_ble_eq_true rfl, Nat.le_of_ble_eq_true rfl⟩) hS (fun _ _ h => h) (fun _ h => h) (fun r_2 _ t9 H locs ht hvm h hB _ _ hS => ?_)
    refine W.cs (cells' := 0) (slots' := 0) rfl rfl ?_
    have hP := x_th ht hB
    have hP : va_P (dC, dI) vwCl (xw 7 ad (mc ad ci r)) H := hP
    refine lv_if_ne (tgt := 20) hx hb dX7_went_13 (by decide) (fun c_3 => ?_) (fun c_3 => ?_)
    · have h := h.2 c_3
      refine lv_iload_n hx hb dX7_went_20 rfl (lv_at hl 1 rfl) ?_
      refine lv_i2l hx hb dX7_went_21 rfl ?_
      refine lv_aload_n hx hb dX7_went_22 rfl (lv_at hl 0 rfl) ?_
      refine xr_get (D := (dC, dI)) (C := RX7) (T := TX7) (N := 9) (v := .ref (ad 1)) hx hb hts wX7_went_c7 hown hK hP 0 (by decide) me_M rfl 0 (by decide) wX7_went_f7 rfl rfl dX7_went_23 ?_
      refine lv_sipush (v := (3702 : Int32)) hx hb dX7_went_26 (by decide) ?_
      refine xr_lald (k := 3702) hx hb hK hP 1 1 (by decide) me_s rfl rfl (x_in _ _ (by decide)) dX7_went_29 ?_
      refine xr_if_lcmp_ge (tgt := 51) hx hb dX7_went_30 dX7_went_31 (by decide) (fun c_4 => ?_) (fun c_4 => ?_)
      · have h := h.1 c_4
        refine lv_ldc2 (v := (-2000000005 : Int64)) hx hb hown (hts _ wX7_went_k48) dX7_went_51 ?_
        exact W.lret (v := (-2000000005 : Int64)) hx hb hr (fun t ht hW => ⟨⟨(-2000000005 : Int64), (), rfl, h, x_ht ht hP⟩, hS.F ht⟩) hS.2.2 dX7_went_54
      · have h := h.2 c_4
        refine lv_aload_n hx hb dX7_went_34 rfl (lv_at hl 0 rfl) ?_
        refine xr_get (D := (dC, dI)) (C := RX7) (T := TX7) (N := 9) (v := .ref (ad 1)) hx hb hts wX7_went_c7 hown hK hP 0 (by decide) me_M rfl 0 (by decide) wX7_went_f7 rfl rfl dX7_went_35 ?_
        refine lv_sipush (v := (2800 : Int32)) hx hb dX7_went_38 (by decide) ?_
        refine lv_iconst (v := (3 : Int32)) hx hb dX7_went_41 (by decide) ?_
        refine lv_iload_n hx hb dX7_went_42 rfl (lv_at hl 1 rfl) ?_
        refine lv_imul hx hb dX7_went_43 ?_
        refine lv_iadd hx hb dX7_went_44 ?_
        refine lv_iload_n hx hb dX7_went_45 rfl (lv_at hl 2 rfl) ?_
        refine lv_iadd hx hb dX7_went_46 ?_
        obtain ⟨g_5, h⟩ := h
        refine xr_lald (k := (((2800 : Int32) + ((3 : Int32) * x1)) + x2).toNatClampNeg) hx hb hK hP 1 1 (by decide) me_s rfl rfl g_5 dX7_went_47 ?_
        refine lv_goto (tgt := 54) hx hb dX7_went_48 (by decide) ?_
        exact W.lret (v := (m_s r ((((2800 : Int32) + ((3 : Int32) * x1)) + x2).toNatClampNeg))) hx hb hr (fun t ht hW => ⟨⟨(m_s r ((((2800 : Int32) + ((3 : Int32) * x1)) + x2).toNatClampNeg)), (), rfl, h, x_ht ht hP⟩, hS.F ht⟩) hS.2.2 dX7_went_54
    · have h := h.1 c_3
      refine lv_ldc2 (v := (-2000000001 : Int64)) hx hb hown (hts _ wX7_went_k73) dX7_went_16 ?_
      exact W.lret (v := (-2000000001 : Int64)) hx hb hr (fun t ht hW => ⟨⟨(-2000000001 : Int64), (), rfl, h, x_ht ht hP⟩, hS.F ht⟩) hS.2.2 dX7_went_19
abbrev rmX7_next : Room := { frames := 4, cells := 0, slots := 0, locals := 90 }
theorem wX7_next_k67 : Cond.constantLong RX7 67 (1125899906842624) ∈ wsX7_next := by decide +kernel
theorem wX7_next_k48 : Cond.constantLong RX7 48 (-2000000005) ∈ wsX7_next := by decide +kernel
def PX7_next  (r : MmV)  (post : Int64 → Prop) : Prop :=
  (PX7_nextTick r (fun (r_1 : Int64) => ((r_1 = (1125899906842624 : Int64) → post (-2000000005 : Int64)) ∧ (¬ r_1 = (1125899906842624 : Int64) → post r_1))))
set_option maxHeartbeats 4000000 in
set_option maxRecDepth 100000 in
theorem qX7_next (l : Launch) (dC : Nat → ClassId) (dI : Nat → Nat → Nat) (ad : Nat → Nat) (ci : Nat → ClassId) (A : Nat → Prop) (hAD : xw_D 7 ad A) (r : MmV)  (post : Int64 → Prop) (h : PX7_next r post) : Met l yX7_next wsX7_next rmX7_next (va_Pc [.ref (ad 0)] (fun U => va_P (dC, dI) vwCl (xw 7 ad (mc ad ci r)) U.heap ∧ va_K (dC, dI) vwCl (xT ci) U)) (va_Ql (fun r9 (u : Unit) => post r9 ) (fun u t => va_P (dC, dI) vwCl (xw 7 ad (mc ad ci r)) t.heap) A) 0 0 A := by
  refine Met.ofW (cc := cX7_next) (maxL := 3) (ret := (some .long)) (by decide) rfl ?_
  intro p e s m args below meth c s₁ B hml hv
  obtain ⟨eargs, hP, hK⟩ := hv
  have C0 : xC p s m args meth c cX7_next 3 (some .long) RX7 wsX7_next (dC, dI) (xT ci) := ⟨B.exec, B.bytes, hml, B.returns, B.notSynchronized, findClass_of_methodNamed B.named, atoms_spec (ws := wsX7_next) B.pre, hK⟩
  obtain ⟨hx, hb, -, hr, hlocks, hown, hts, -⟩ := id C0
  have hS : va_S A s.heap s.heap [] := va_S.rf
  have hl := lv_entry ([.ref (ad 0)]) (n := 3) (Nat.le_of_ble_eq_true rfl)
  have ef : entryFrame m args 3 = entryFrame m ([.ref (ad 0)] : List Value).toArray 3 := by rw [eargs]
  rw [ef, lg_entry_eq]
  generalize (lg_sl ([.ref (ad 0)]) ++ List.replicate (3 - (lg_sl ([.ref (ad 0)])).length) Slot.unset).toArray = ls at hl ⊢
  have hl : lv_has ls 3 [(0, .ref (ad 0))] := hl
  have hP : va_P (dC, dI) vwCl (xw 7 ad (mc ad ci r)) s.heap := hP
  unfold PX7_next at h
  refine lv_aload_n hx hb dX7_next_0 rfl (lv_at hl 0 rfl) ?_
  refine va_calll (va_runV (As := []) (rest := []) ⟨hx, hb, C0.2.2.1, hown, hts⟩ (qX7_nextTick l dC dI ad ci A hAD r  _ h) (cwV 0 hts gX7_next_X7_nextTick rfl rfl rfl (by decide +kernel) ⟨Nat.le_of_ble_eq_true rfl, Nat.le_of_ble_eq_true rfl⟩) ⟨xr_blind, xr_recv (r := (RX7, TX7, 9)) hK hP 0 (by decide) me_M rfl, xr_pre hP hK⟩ rfl rfl hl.1 rfl (lv_room (Nat.le_of_ble_eq_true rfl)) dX7_next_1 ⟨Nat.le_of_ble_eq_true rfl, Nat.le_of_ble_eq_true rfl⟩) hS (fun _ _ h => h) (fun _ h => h) (fun r_1 _ t9 H locs ht hvm h hB _ _ hS => ?_)
  refine W.cs (cells' := 0) (slots' := 0) rfl rfl ?_
  have hP := x_th ht hB
  have hP : va_P (dC, dI) vwCl (xw 7 ad (mc ad ci r)) H := hP
  refine lv_lstore_n (lv' := [(1, .long r_1), (0, .ref (ad 0))]) hx hb dX7_next_4 rfl hl (by decide) rfl (fun ls hl => ?_)
  refine lv_lload_n hx hb dX7_next_5 rfl (lv_at hl 0 rfl) ?_
  refine lv_ldc2 (v := (1125899906842624 : Int64)) hx hb hown (hts _ wX7_next_k67) dX7_next_6 ?_
  refine xr_if_lcmp_ne (tgt := 19) hx hb dX7_next_9 dX7_next_10 (by decide) (fun c_2 => ?_) (fun c_2 => ?_)
  · have h := h.2 c_2
    refine lv_lload_n hx hb dX7_next_19 rfl (lv_at hl 0 rfl) ?_
    exact W.lret (v := r_1) hx hb hr (fun t ht hW => ⟨⟨r_1, (), rfl, h, x_ht ht hP⟩, hS.F ht⟩) hS.2.2 dX7_next_20
  · have h := h.1 c_2
    refine lv_ldc2 (v := (-2000000005 : Int64)) hx hb hown (hts _ wX7_next_k48) dX7_next_13 ?_
    refine lv_goto (tgt := 20) hx hb dX7_next_16 (by decide) ?_
    exact W.lret (v := (-2000000005 : Int64)) hx hb hr (fun t ht hW => ⟨⟨(-2000000005 : Int64), (), rfl, h, x_ht ht hP⟩, hS.F ht⟩) hS.2.2 dX7_next_20
abbrev rmX7_isAhead : Room := { frames := 1, cells := 0, slots := 0, locals := 22 }
def PX7_isAhead  (r : MmV) (x1 : Int32) (x2 : Int32) (post : Int32 → Prop) : Prop :=
  (PX7_get r x1 (3 : Int32) (fun (r_1 : Int64) => (PX7_get r x2 (3 : Int32) (fun (r_2 : Int64) => ((r_1 < r_2 → post (1 : Int32)) ∧ (¬ r_1 < r_2 → (PX7_get r x1 (3 : Int32) (fun (r_4 : Int64) => (PX7_get r x2 (3 : Int32) (fun (r_5 : Int64) => ((r_4 = r_5 → (PX7_get r x1 (11 : Int32) (fun (r_7 : Int64) => (PX7_get r x2 (11 : Int32) (fun (r_8 : Int64) => ((r_8 ≤ r_7 → post (0 : Int32)) ∧ (¬ r_8 ≤ r_7 → post (1 : Int32)))))))) ∧ (¬ r_4 = r_5 → post (0 : Int32)))))))))))))
set_option maxHeartbeats 4000000 in
set_option maxRecDepth 100000 in
theorem qX7_isAhead (l : Launch) (dC : Nat → ClassId) (dI : Nat → Nat → Nat) (ad : Nat → Nat) (ci : Nat → ClassId) (A : Nat → Prop) (hAD : xw_D 7 ad A) (r : MmV) (x1 : Int32) (x2 : Int32) (post : Int32 → Prop) (h : PX7_isAhead r x1 x2 post) : Met l yX7_isAhead wsX7_isAhead rmX7_isAhead (va_Pc [.ref (ad 0), .int x1, .int x2] (fun U => va_P (dC, dI) vwCl (xw 7 ad (mc ad ci r)) U.heap ∧ va_K (dC, dI) vwCl (xT ci) U)) (va_Qi (fun r9 (u : Unit) => post r9 ) (fun u t => va_P (dC, dI) vwCl (xw 7 ad (mc ad ci r)) t.heap) A) 0 0 A := by
  refine Met.ofW (cc := cX7_isAhead) (maxL := 3) (ret := (some .boolean)) (by decide) rfl ?_
  intro p e s m args below meth c s₁ B hml hv
  obtain ⟨eargs, hP, hK⟩ := hv
  have C0 : xC p s m args meth c cX7_isAhead 3 (some .boolean) RX7 wsX7_isAhead (dC, dI) (xT ci) := ⟨B.exec, B.bytes, hml, B.returns, B.notSynchronized, findClass_of_methodNamed B.named, atoms_spec (ws := wsX7_isAhead) B.pre, hK⟩
  obtain ⟨hx, hb, -, hr, hlocks, hown, hts, -⟩ := id C0
  have hS : va_S A s.heap s.heap [] := va_S.rf
  have hl := lv_entry ([.ref (ad 0), .int x1, .int x2]) (n := 3) (Nat.le_of_ble_eq_true rfl)
  have ef : entryFrame m args 3 = entryFrame m ([.ref (ad 0), .int x1, .int x2] : List Value).toArray 3 := by rw [eargs]
  rw [ef, lg_entry_eq]
  generalize (lg_sl ([.ref (ad 0), .int x1, .int x2]) ++ List.replicate (3 - (lg_sl ([.ref (ad 0), .int x1, .int x2])).length) Slot.unset).toArray = ls at hl ⊢
  have hl : lv_has ls 3 [(0, .ref (ad 0)), (1, .int x1), (2, .int x2)] := hl
  have hP : va_P (dC, dI) vwCl (xw 7 ad (mc ad ci r)) s.heap := hP
  unfold PX7_isAhead at h
  refine lv_aload_n hx hb dX7_isAhead_0 rfl (lv_at hl 0 rfl) ?_
  refine lv_iload_n hx hb dX7_isAhead_1 rfl (lv_at hl 1 rfl) ?_
  refine lv_iconst (v := (3 : Int32)) hx hb dX7_isAhead_2 (by decide) ?_
  refine va_calll (va_runV (As := [.int x1, .int (3 : Int32)]) (rest := []) ⟨hx, hb, C0.2.2.1, hown, hts⟩ (qX7_get l dC dI ad ci A hAD r x1 (3 : Int32) _ h) (cwV 2 hts gX7_isAhead_X7_get rfl rfl rfl (by decide +kernel) ⟨Nat.le_of_ble_eq_true rfl, Nat.le_of_ble_eq_true rfl⟩) ⟨xr_blind, xr_recv (r := (RX7, TX7, 9)) hK hP 0 (by decide) me_M rfl, xr_pre hP hK⟩ rfl rfl hl.1 rfl (lv_room (Nat.le_of_ble_eq_true rfl)) dX7_isAhead_3 ⟨Nat.le_of_ble_eq_true rfl, Nat.le_of_ble_eq_true rfl⟩) hS (fun _ _ h => h) (fun _ h => h) (fun r_1 _ t9 H locs ht hvm h hB _ _ hS => ?_)
  refine W.cs (cells' := 0) (slots' := 0) rfl rfl ?_
  have hP := x_th ht hB
  have hP : va_P (dC, dI) vwCl (xw 7 ad (mc ad ci r)) H := hP
  refine lv_aload_n hx hb dX7_isAhead_6 rfl (lv_at hl 0 rfl) ?_
  refine lv_iload_n hx hb dX7_isAhead_7 rfl (lv_at hl 2 rfl) ?_
  refine lv_iconst (v := (3 : Int32)) hx hb dX7_isAhead_8 (by decide) ?_
  refine va_calll (va_runV (As := [.int x2, .int (3 : Int32)]) (rest := [.long r_1]) ⟨hx, hb, C0.2.2.1, hown, hts⟩ (qX7_get l dC dI ad ci A hAD r x2 (3 : Int32) _ h) (cwV 2 hts gX7_isAhead_X7_get rfl rfl rfl (by decide +kernel) ⟨Nat.le_of_ble_eq_true rfl, Nat.le_of_ble_eq_true rfl⟩) ⟨xr_blind, xr_recv (r := (RX7, TX7, 9)) hK hP 0 (by decide) me_M rfl, xr_pre hP hK⟩ rfl rfl hl.1 rfl (lv_room (Nat.le_of_ble_eq_true rfl)) dX7_isAhead_9 ⟨Nat.le_of_ble_eq_true rfl, Nat.le_of_ble_eq_true rfl⟩) hS (fun _ _ h => h) (fun _ h => h) (fun r_2 _ t9 H locs ht hvm h hB _ _ hS => ?_)
  refine W.cs (cells' := 0) (slots' := 0) rfl rfl ?_
  have hP := x_th ht hB
  have hP : va_P (dC, dI) vwCl (xw 7 ad (mc ad ci r)) H := hP
  refine xr_if_lcmp_lt (tgt := 50) hx hb dX7_isAhead_12 dX7_isAhead_13 (by decide) (fun c_3 => ?_) (fun c_3 => ?_)
  · have h := h.1 c_3
    refine lv_iconst (v := (1 : Int32)) hx hb dX7_isAhead_50 (by decide) ?_
    refine lv_goto (tgt := 55) hx hb dX7_isAhead_51 (by decide) ?_
    exact W.zret (v := (1 : Int32)) (ty := .boolean) hx hb hr (by decide) (fun t ht hW => ⟨⟨(1 : Int32), (), rfl, h, x_ht ht hP⟩, hS.F ht⟩) hS.2.2 dX7_isAhead_55
  · have h := h.2 c_3
    refine lv_aload_n hx hb dX7_isAhead_16 rfl (lv_at hl 0 rfl) ?_
    refine lv_iload_n hx hb dX7_isAhead_17 rfl (lv_at hl 1 rfl) ?_
    refine lv_iconst (v := (3 : Int32)) hx hb dX7_isAhead_18 (by decide) ?_
    refine va_calll (va_runV (As := [.int x1, .int (3 : Int32)]) (rest := []) ⟨hx, hb, C0.2.2.1, hown, hts⟩ (qX7_get l dC dI ad ci A hAD r x1 (3 : Int32) _ h) (cwV 2 hts gX7_isAhead_X7_get rfl rfl rfl (by decide +kernel) ⟨Nat.le_of_ble_eq_true rfl, Nat.le_of_ble_eq_true rfl⟩) ⟨xr_blind, xr_recv (r := (RX7, TX7, 9)) hK hP 0 (by decide) me_M rfl, xr_pre hP hK⟩ rfl rfl hl.1 rfl (lv_room (Nat.le_of_ble_eq_true rfl)) dX7_isAhead_19 ⟨Nat.le_of_ble_eq_true rfl, Nat.le_of_ble_eq_true rfl⟩) hS (fun _ _ h => h) (fun _ h => h) (fun r_4 _ t9 H locs ht hvm h hB _ _ hS => ?_)
    refine W.cs (cells' := 0) (slots' := 0) rfl rfl ?_
    have hP := x_th ht hB
    have hP : va_P (dC, dI) vwCl (xw 7 ad (mc ad ci r)) H := hP
    refine lv_aload_n hx hb dX7_isAhead_22 rfl (lv_at hl 0 rfl) ?_
    refine lv_iload_n hx hb dX7_isAhead_23 rfl (lv_at hl 2 rfl) ?_
    refine lv_iconst (v := (3 : Int32)) hx hb dX7_isAhead_24 (by decide) ?_
    refine va_calll (va_runV (As := [.int x2, .int (3 : Int32)]) (rest := [.long r_4]) ⟨hx, hb, C0.2.2.1, hown, hts⟩ (qX7_get l dC dI ad ci A hAD r x2 (3 : Int32) _ h) (cwV 2 hts gX7_isAhead_X7_get rfl rfl rfl (by decide +kernel) ⟨Nat.le_of_ble_eq_true rfl, Nat.le_of_ble_eq_true rfl⟩) ⟨xr_blind, xr_recv (r := (RX7, TX7, 9)) hK hP 0 (by decide) me_M rfl, xr_pre hP hK⟩ rfl rfl hl.1 rfl (lv_room (Nat.le_of_ble_eq_true rfl)) dX7_isAhead_25 ⟨Nat.le_of_ble_eq_true rfl, Nat.le_of_ble_eq_true rfl⟩) hS (fun _ _ h => h) (fun _ h => h) (fun r_5 _ t9 H locs ht hvm h hB _ _ hS => ?_)
    refine W.cs (cells' := 0) (slots' := 0) rfl rfl ?_
    have hP := x_th ht hB
    have hP : va_P (dC, dI) vwCl (xw 7 ad (mc ad ci r)) H := hP
    refine xr_if_lcmp_ne (tgt := 54) hx hb dX7_isAhead_28 dX7_isAhead_29 (by decide) (fun c_6 => ?_) (fun c_6 => ?_)
    · have h := h.2 c_6
      refine lv_iconst (v := (0 : Int32)) hx hb dX7_isAhead_54 (by decide) ?_
      exact W.zret (v := (0 : Int32)) (ty := .boolean) hx hb hr (by decide) (fun t ht hW => ⟨⟨(0 : Int32), (), rfl, h, x_ht ht hP⟩, hS.F ht⟩) hS.2.2 dX7_isAhead_55
    · have h := h.1 c_6
      refine lv_aload_n hx hb dX7_isAhead_32 rfl (lv_at hl 0 rfl) ?_
      refine lv_iload_n hx hb dX7_isAhead_33 rfl (lv_at hl 1 rfl) ?_
      refine lv_bipush (v := (11 : Int32)) hx hb dX7_isAhead_34 (by decide) ?_
      refine va_calll (va_runV (As := [.int x1, .int (11 : Int32)]) (rest := []) ⟨hx, hb, C0.2.2.1, hown, hts⟩ (qX7_get l dC dI ad ci A hAD r x1 (11 : Int32) _ h) (cwV 2 hts gX7_isAhead_X7_get rfl rfl rfl (by decide +kernel) ⟨Nat.le_of_ble_eq_true rfl, Nat.le_of_ble_eq_true rfl⟩) ⟨xr_blind, xr_recv (r := (RX7, TX7, 9)) hK hP 0 (by decide) me_M rfl, xr_pre hP hK⟩ rfl rfl hl.1 rfl (lv_room (Nat.le_of_ble_eq_true rfl)) dX7_isAhead_36 ⟨Nat.le_of_ble_eq_true rfl, Nat.le_of_ble_eq_true rfl⟩) hS (fun _ _ h => h) (fun _ h => h) (fun r_7 _ t9 H locs ht hvm h hB _ _ hS => ?_)
      refine W.cs (cells' := 0) (slots' := 0) rfl rfl ?_
      have hP := x_th ht hB
      have hP : va_P (dC, dI) vwCl (xw 7 ad (mc ad ci r)) H := hP
      refine lv_aload_n hx hb dX7_isAhead_39 rfl (lv_at hl 0 rfl) ?_
      refine lv_iload_n hx hb dX7_isAhead_40 rfl (lv_at hl 2 rfl) ?_
      refine lv_bipush (v := (11 : Int32)) hx hb dX7_isAhead_41 (by decide) ?_
      refine va_calll (va_runV (As := [.int x2, .int (11 : Int32)]) (rest := [.long r_7]) ⟨hx, hb, C0.2.2.1, hown, hts⟩ (qX7_get l dC dI ad ci A hAD r x2 (11 : Int32) _ h) (cwV 2 hts gX7_isAhead_X7_get rfl rfl rfl (by decide +kernel) ⟨Nat.le_of_ble_eq_true rfl, Nat.le_of_ble_eq_true rfl⟩) ⟨xr_blind, xr_recv (r := (RX7, TX7, 9)) hK hP 0 (by decide) me_M rfl, xr_pre hP hK⟩ rfl rfl hl.1 rfl (lv_room (Nat.le_of_ble_eq_true rfl)) dX7_isAhead_43 ⟨Nat.le_of_ble_eq_true rfl, Nat.le_of_ble_eq_true rfl⟩) hS (fun _ _ h => h) (fun _ h => h) (fun r_8 _ t9 H locs ht hvm h hB _ _ hS => ?_)
      refine W.cs (cells' := 0) (slots' := 0) rfl rfl ?_
      have hP := x_th ht hB
      have hP : va_P (dC, dI) vwCl (xw 7 ad (mc ad ci r)) H := hP
      refine xr_if_lcmp_ge (tgt := 54) hx hb dX7_isAhead_46 dX7_isAhead_47 (by decide) (fun c_9 => ?_) (fun c_9 => ?_)
      · have h := h.1 c_9
        refine lv_iconst (v := (0 : Int32)) hx hb dX7_isAhead_54 (by decide) ?_
        exact W.zret (v := (0 : Int32)) (ty := .boolean) hx hb hr (by decide) (fun t ht hW => ⟨⟨(0 : Int32), (), rfl, h, x_ht ht hP⟩, hS.F ht⟩) hS.2.2 dX7_isAhead_55
      · have h := h.2 c_9
        refine lv_iconst (v := (1 : Int32)) hx hb dX7_isAhead_50 (by decide) ?_
        refine lv_goto (tgt := 55) hx hb dX7_isAhead_51 (by decide) ?_
        exact W.zret (v := (1 : Int32)) (ty := .boolean) hx hb hr (by decide) (fun t ht hW => ⟨⟨(1 : Int32), (), rfl, h, x_ht ht hP⟩, hS.F ht⟩) hS.2.2 dX7_isAhead_55
abbrev rmX7_gather : Room := { frames := 3, cells := 0, slots := 0, locals := 67 }
theorem wX7_gather_k48 : Cond.constantLong RX7 48 (-2000000005) ∈ wsX7_gather := by decide +kernel
theorem wX7_gather_k99 : Cond.constantLong RX7 99 (2) ∈ wsX7_gather := by decide +kernel
theorem wX7_gather_c7 : ∀ w ∈ u_ws RX7 TX7 9, w ∈ wsX7_gather := by decide +kernel
theorem wX7_gather_f20 : Cond.fieldLink RX7 20 "DueWheelsModel" "loose" "[I" ∈ wsX7_gather := by decide +kernel
theorem wX7_gather_f159 : Cond.fieldLink RX7 159 "DueWheelsModel" "looseCount" "I" ∈ wsX7_gather := by decide +kernel
theorem wX7_gather_f23 : Cond.fieldLink RX7 23 "DueWheelsModel" "ticks" "[J" ∈ wsX7_gather := by decide +kernel
def LX7_gather_66   (x1 : Int32) (K106 : Int32 → MmV → Prop) (post : MmV → Prop) : Nat → Int32 → MmV → Prop
  | 0, _, _ => False
  | n + 1, x2, r => ((x2 ≤ 0 → K106 x2 r) ∧ (¬ x2 ≤ 0 → (vp_in (x2 - (1 : Int32)) 200 ∧ (PX7_isAhead r x1 (m_lo r ((x2 - (1 : Int32)).toNatClampNeg)) (fun (r_16 : Int32) => ((r_16 = 0 → K106 x2 r) ∧ (¬ r_16 = 0 → (vp_in (x2 - (1 : Int32)) 200 ∧ (vp_in x2 200 ∧ (∀ r_20 : MmV, r_20 = m_wlo r (upd (m_lo r) (x2.toNatClampNeg) (m_lo r ((x2 - (1 : Int32)).toNatClampNeg))) → ∀ x2_21 : Int32, x2_21 = x2 + (-1) → LX7_gather_66  x1 K106 post n x2_21 r_20))))))))))
set_option maxHeartbeats 4000000 in
set_option maxRecDepth 100000 in
theorem kX7_gather_66 {p : Program} {e : Env} {s : State} {m : MethodId} {args : Array Value} {below : List Frame} {meth : Method} {c : Code} (l : Launch) (dC : Nat → ClassId) (dI : Nat → Nat → Nat) (ad : Nat → Nat) (ci : Nat → ClassId) (A : Nat → Prop) (hAD : xw_D 7 ad A)  (x1 : Int32) (K106 : Int32 → MmV → Prop) (post : MmV → Prop) (C0 : xC p s m args meth c cX7_gather 3 none RX7 wsX7_gather (dC, dI) (xT ci)) (hK106 : ∀ (x2 : Int32) (r : MmV) (H : Heap) (locs : List Loc) (ls : Array Slot), K106 x2 r → va_P (dC, dI) vwCl (xw 7 ad (mc ad ci r)) H → va_S A s.heap H locs → lv_has ls 3 [(0, .ref (ad 0)), (1, .int x1), (2, .int x2)] → W p l e rmX7_gather s m args below meth c H locs 0 0 (MQ below (va_Qv (fun u : MmV => post u) (fun u t => va_P (dC, dI) vwCl (xw 7 ad (mc ad ci u)) t.heap) A) args s 0 0 A) (F0 m 106 ls [])) : ∀ (n : Nat) (x2 : Int32) (r : MmV) (H : Heap) (locs : List Loc) (ls : Array Slot), LX7_gather_66  x1 K106 post n x2 r → va_P (dC, dI) vwCl (xw 7 ad (mc ad ci r)) H → va_S A s.heap H locs → lv_has ls 3 [(0, .ref (ad 0)), (1, .int x1), (2, .int x2)] → W p l e rmX7_gather s m args below meth c H locs 0 0 (MQ below (va_Qv (fun u : MmV => post u) (fun u t => va_P (dC, dI) vwCl (xw 7 ad (mc ad ci u)) t.heap) A) args s 0 0 A) (F0 m 66 ls []) := by
  obtain ⟨hx, hb, -, hr, hlocks, hown, hts, hK⟩ := id C0
  intro n
  induction n with
  | zero =>
    intro x2 r H locs ls h
    exact False.elim h
  | succ n ih =>
    intro x2 r H locs ls h hP hS hl
    rw [LX7_gather_66] at h
    refine lv_iload_n hx hb dX7_gather_66 rfl (lv_at hl 2 rfl) ?_
    refine lv_if_le (tgt := 106) hx hb dX7_gather_67 (by decide) (fun c_14 => ?_) (fun c_14 => ?_)
    · have h := h.1 c_14
      exact hK106 x2 r _ _ _ h hP hS (lv_sub hl [0, 1, 2] rfl)
    · have h := h.2 c_14
      refine lv_aload_n hx hb dX7_gather_70 rfl (lv_at hl 0 rfl) ?_
      refine lv_iload_n hx hb dX7_gather_71 rfl (lv_at hl 1 rfl) ?_
      refine lv_aload_n hx hb dX7_gather_72 rfl (lv_at hl 0 rfl) ?_
      refine xr_get (D := (dC, dI)) (C := RX7) (T := TX7) (N := 9) (v := .ref (ad 4)) hx hb hts wX7_gather_c7 hown hK hP 0 (by decide) me_M rfl 5 (by decide) wX7_gather_f20 rfl rfl dX7_gather_73 ?_
      refine lv_iload_n hx hb dX7_gather_76 rfl (lv_at hl 2 rfl) ?_
      refine lv_iconst (v := (1 : Int32)) hx hb dX7_gather_77 (by decide) ?_
      refine lv_isub hx hb dX7_gather_78 ?_
      obtain ⟨g_15, h⟩ := h
      refine xr_iald (k := (x2 - (1 : Int32)).toNatClampNeg) hx hb hK hP 4 0 (by decide) me_lo rfl rfl g_15 dX7_gather_79 ?_
      refine va_calli (va_runV (As := [.int x1, .int (m_lo r ((x2 - (1 : Int32)).toNatClampNeg))]) (rest := []) ⟨hx, hb, C0.2.2.1, hown, hts⟩ (qX7_isAhead l dC dI ad ci A hAD r x1 (m_lo r ((x2 - (1 : Int32)).toNatClampNeg)) _ h) (cwV 2 hts gX7_gather_X7_isAhead rfl rfl rfl (by decide +kernel) ⟨Nat.le_of_ble_eq_true rfl, Nat.le_of_ble_eq_true rfl⟩) ⟨xr_blind, xr_recv (r := (RX7, TX7, 9)) hK hP 0 (by decide) me_M rfl, xr_pre hP hK⟩ rfl rfl hl.1 rfl (lv_room (Nat.le_of_ble_eq_true rfl)) dX7_gather_80 ⟨Nat.le_of_ble_eq_true rfl, Nat.le_of_ble_eq_true rfl⟩) hS (fun _ _ h => h) (fun _ h => h) (fun r_16 _ t9 H locs ht hvm h hB _ _ hS => ?_)
      refine W.cs (cells' := 0) (slots' := 0) rfl rfl ?_
      have hP := x_th ht hB
      have hP : va_P (dC, dI) vwCl (xw 7 ad (mc ad ci r)) H := hP
      refine lv_if_eq (tgt := 106) hx hb dX7_gather_83 (by decide) (fun c_17 => ?_) (fun c_17 => ?_)
      · have h := h.1 c_17
        exact hK106 x2 r _ _ _ h hP hS (lv_sub hl [0, 1, 2] rfl)
      · have h := h.2 c_17
        refine lv_aload_n hx hb dX7_gather_86 rfl (lv_at hl 0 rfl) ?_
        refine xr_get (D := (dC, dI)) (C := RX7) (T := TX7) (N := 9) (v := .ref (ad 4)) hx hb hts wX7_gather_c7 hown hK hP 0 (by decide) me_M rfl 5 (by decide) wX7_gather_f20 rfl rfl dX7_gather_87 ?_
        refine lv_iload_n hx hb dX7_gather_90 rfl (lv_at hl 2 rfl) ?_
        refine lv_aload_n hx hb dX7_gather_91 rfl (lv_at hl 0 rfl) ?_
        refine xr_get (D := (dC, dI)) (C := RX7) (T := TX7) (N := 9) (v := .ref (ad 4)) hx hb hts wX7_gather_c7 hown hK hP 0 (by decide) me_M rfl 5 (by decide) wX7_gather_f20 rfl rfl dX7_gather_92 ?_
        refine lv_iload_n hx hb dX7_gather_95 rfl (lv_at hl 2 rfl) ?_
        refine lv_iconst (v := (1 : Int32)) hx hb dX7_gather_96 (by decide) ?_
        refine lv_isub hx hb dX7_gather_97 ?_
        obtain ⟨g_18, h⟩ := h
        refine xr_iald (k := (x2 - (1 : Int32)).toNatClampNeg) hx hb hK hP 4 0 (by decide) me_lo rfl rfl g_18 dX7_gather_98 ?_
        obtain ⟨g_19, h⟩ := h
        obtain ⟨r_20, er_20⟩ : ∃ z : MmV, z = m_wlo r (upd (m_lo r) (x2.toNatClampNeg) (m_lo r ((x2 - (1 : Int32)).toNatClampNeg))) := ⟨_, rfl⟩
        have h := h r_20 er_20
        refine xr_iast (k := x2.toNatClampNeg) (x := (m_lo r ((x2 - (1 : Int32)).toNatClampNeg))) (g := (mc ad ci r_20)) hx hb hK hP hAD hS 4 0 (by decide) me_lo rfl rfl g_19 dX7_gather_99 (by rw [er_20]; exact mg_lo) (fun H locs hP hS => ?_)
        obtain ⟨x2_21, ex2_21⟩ : ∃ z : Int32, z = x2 + (-1) := ⟨_, rfl⟩
        have h := h x2_21 ex2_21
        refine lv_iinc (v := x2_21) (lv' := [(2, .int x2_21), (0, .ref (ad 0)), (1, .int x1)]) hx hb dX7_gather_100 hl (k := 2) rfl (by rw [ex2_21]; rfl) (by decide) rfl (fun ls hl => ?_)
        refine lv_goto (tgt := 66) hx hb dX7_gather_103 (by decide) ?_
        exact ih x2_21 r_20 _ _ _ h hP hS (lv_sub hl [1, 2, 0] rfl)
def LX7_gather_7     (post : MmV → Prop) : Nat → Int32 → MmV → Prop
  | 0, _, _ => False
  | n + 1, x1, r => (((200 : Int32) ≤ x1 → post r) ∧ (¬ (200 : Int32) ≤ x1 → (PX7_hasTick r x1 (fun (r_3 : Int32) => ((r_3 = 0 → (vp_in x1 200 ∧ (∀ r_6 : MmV, r_6 = m_wtk r (vp_updL (m_tk r) (x1.toNatClampNeg) (-2000000005 : Int64)) → (PX7_hasTick r_6 x1 (fun (r_7 : Int32) => ((r_7 = 0 → ∀ x1_9 : Int32, x1_9 = x1 + 1 → LX7_gather_7  post n x1_9 r_6) ∧ (¬ r_7 = 0 → (PX7_get r_6 x1 (1 : Int32) (fun (r_10 : Int64) => ((r_10 = (2 : Int64) → ∀ x2_13 : Int32, x2_13 = (m_lc r_6) → (∃ n_28 : Nat, LX7_gather_66  x1 (fun (x2_22 : Int32) (r_23 : MmV) => (vp_in x2_22 200 ∧ (∀ r_25 : MmV, r_25 = m_wlo r_23 (upd (m_lo r_23) (x2_22.toNatClampNeg) x1) → ∀ r_26 : MmV, r_26 = m_wlc r_25 ((m_lc r_25) + (1 : Int32)) → ∀ x1_27 : Int32, x1_27 = x1 + 1 → LX7_gather_7  post n x1_27 r_26))) post n_28 x2_13 r_6)) ∧ (¬ r_10 = (2 : Int64) → ∀ x1_12 : Int32, x1_12 = x1 + 1 → LX7_gather_7  post n x1_12 r_6))))))))))) ∧ (¬ r_3 = 0 → (PX7_get r x1 (3 : Int32) (fun (r_29 : Int64) => (vp_in x1 200 ∧ (∀ r_31 : MmV, r_31 = m_wtk r (vp_updL (m_tk r) (x1.toNatClampNeg) r_29) → (PX7_hasTick r_31 x1 (fun (r_32 : Int32) => ((r_32 = 0 → ∀ x1_34 : Int32, x1_34 = x1 + 1 → LX7_gather_7  post n x1_34 r_31) ∧ (¬ r_32 = 0 → (PX7_get r_31 x1 (1 : Int32) (fun (r_35 : Int64) => ((r_35 = (2 : Int64) → ∀ x2_38 : Int32, x2_38 = (m_lc r_31) → (∃ n_45 : Nat, LX7_gather_66  x1 (fun (x2_39 : Int32) (r_40 : MmV) => (vp_in x2_39 200 ∧ (∀ r_42 : MmV, r_42 = m_wlo r_40 (upd (m_lo r_40) (x2_39.toNatClampNeg) x1) → ∀ r_43 : MmV, r_43 = m_wlc r_42 ((m_lc r_42) + (1 : Int32)) → ∀ x1_44 : Int32, x1_44 = x1 + 1 → LX7_gather_7  post n x1_44 r_43))) post n_45 x2_38 r_31)) ∧ (¬ r_35 = (2 : Int64) → ∀ x1_37 : Int32, x1_37 = x1 + 1 → LX7_gather_7  post n x1_37 r_31))))))))))))))))))
set_option maxHeartbeats 4000000 in
set_option maxRecDepth 100000 in
theorem kX7_gather_7 {p : Program} {e : Env} {s : State} {m : MethodId} {args : Array Value} {below : List Frame} {meth : Method} {c : Code} (l : Launch) (dC : Nat → ClassId) (dI : Nat → Nat → Nat) (ad : Nat → Nat) (ci : Nat → ClassId) (A : Nat → Prop) (hAD : xw_D 7 ad A)    (post : MmV → Prop) (C0 : xC p s m args meth c cX7_gather 3 none RX7 wsX7_gather (dC, dI) (xT ci)) : ∀ (n : Nat) (x1 : Int32) (r : MmV) (H : Heap) (locs : List Loc) (ls : Array Slot), LX7_gather_7  post n x1 r → va_P (dC, dI) vwCl (xw 7 ad (mc ad ci r)) H → va_S A s.heap H locs → lv_has ls 3 [(0, .ref (ad 0)), (1, .int x1)] → W p l e rmX7_gather s m args below meth c H locs 0 0 (MQ below (va_Qv (fun u : MmV => post u) (fun u t => va_P (dC, dI) vwCl (xw 7 ad (mc ad ci u)) t.heap) A) args s 0 0 A) (F0 m 7 ls []) := by
  obtain ⟨hx, hb, -, hr, hlocks, hown, hts, hK⟩ := id C0
  intro n
  induction n with
  | zero =>
    intro x1 r H locs ls h
    exact False.elim h
  | succ n ih =>
    intro x1 r H locs ls h hP hS hl
    rw [LX7_gather_7] at h
    refine lv_iload_n hx hb dX7_gather_7 rfl (lv_at hl 1 rfl) ?_
    refine lv_sipush (v := (200 : Int32)) hx hb dX7_gather_8 (by decide) ?_
    refine lv_icmp_ge (tgt := 129) hx hb dX7_gather_11 (by decide) (fun c_2 => ?_) (fun c_2 => ?_)
    · have h := h.1 c_2
      exact W.vret hx hb hr (fun t ht hW => ⟨⟨r, rfl, h, x_ht ht hP⟩, hS.F ht⟩) hS.2.2 dX7_gather_129
    · have h := h.2 c_2
      refine lv_aload_n hx hb dX7_gather_14 rfl (lv_at hl 0 rfl) ?_
      refine xr_get (D := (dC, dI)) (C := RX7) (T := TX7) (N := 9) (v := .ref (ad 5)) hx hb hts wX7_gather_c7 hown hK hP 0 (by decide) me_M rfl 6 (by decide) wX7_gather_f23 rfl rfl dX7_gather_15 ?_
      refine lv_iload_n hx hb dX7_gather_18 rfl (lv_at hl 1 rfl) ?_
      refine lv_aload_n hx hb dX7_gather_19 rfl (lv_at hl 0 rfl) ?_
      refine lv_iload_n hx hb dX7_gather_20 rfl (lv_at hl 1 rfl) ?_
      refine va_calli (va_runV (As := [.int x1]) (rest := [.int x1, .ref (ad 5)]) ⟨hx, hb, C0.2.2.1, hown, hts⟩ (qX7_hasTick l dC dI ad ci A hAD r x1 _ h) (cwV 1 hts gX7_gather_X7_hasTick rfl rfl rfl (by decide +kernel) ⟨Nat.le_of_ble_eq_true rfl, Nat.le_of_ble_eq_true rfl⟩) ⟨xr_blind, xr_recv (r := (RX7, TX7, 9)) hK hP 0 (by decide) me_M rfl, xr_pre hP hK⟩ rfl rfl hl.1 rfl (lv_room (Nat.le_of_ble_eq_true rfl)) dX7_gather_21 ⟨Nat.le_of_ble_eq_true rfl, Nat.le_of_ble_eq_true rfl⟩) hS (fun _ _ h => h) (fun _ h => h) (fun r_3 _ t9 H locs ht hvm h hB _ _ hS => ?_)
      refine W.cs (cells' := 0) (slots' := 0) rfl rfl ?_
      have hP := x_th ht hB
      have hP : va_P (dC, dI) vwCl (xw 7 ad (mc ad ci r)) H := hP
      refine lv_if_eq (tgt := 36) hx hb dX7_gather_24 (by decide) (fun c_4 => ?_) (fun c_4 => ?_)
      · have h := h.1 c_4
        refine lv_ldc2 (v := (-2000000005 : Int64)) hx hb hown (hts _ wX7_gather_k48) dX7_gather_36 ?_
        obtain ⟨g_5, h⟩ := h
        obtain ⟨r_6, er_6⟩ : ∃ z : MmV, z = m_wtk r (vp_updL (m_tk r) (x1.toNatClampNeg) (-2000000005 : Int64)) := ⟨_, rfl⟩
        have h := h r_6 er_6
        refine xr_last (k := x1.toNatClampNeg) (x := (-2000000005 : Int64)) (g := (mc ad ci r_6)) hx hb hK hP hAD hS 5 1 (by decide) me_tk rfl rfl g_5 dX7_gather_39 (by rw [er_6]; exact mg_tk) (fun H locs hP hS => ?_)
        refine lv_aload_n hx hb dX7_gather_40 rfl (lv_at hl 0 rfl) ?_
        refine lv_iload_n hx hb dX7_gather_41 rfl (lv_at hl 1 rfl) ?_
        refine va_calli (va_runV (As := [.int x1]) (rest := []) ⟨hx, hb, C0.2.2.1, hown, hts⟩ (qX7_hasTick l dC dI ad ci A hAD r_6 x1 _ h) (cwV 1 hts gX7_gather_X7_hasTick rfl rfl rfl (by decide +kernel) ⟨Nat.le_of_ble_eq_true rfl, Nat.le_of_ble_eq_true rfl⟩) ⟨xr_blind, xr_recv (r := (RX7, TX7, 9)) hK hP 0 (by decide) me_M rfl, xr_pre hP hK⟩ rfl rfl hl.1 rfl (lv_room (Nat.le_of_ble_eq_true rfl)) dX7_gather_42 ⟨Nat.le_of_ble_eq_true rfl, Nat.le_of_ble_eq_true rfl⟩) hS (fun _ _ h => h) (fun _ h => h) (fun r_7 _ t9 H locs ht hvm h hB _ _ hS => ?_)
        refine W.cs (cells' := 0) (slots' := 0) rfl rfl ?_
        have hP := x_th ht hB
        have hP : va_P (dC, dI) vwCl (xw 7 ad (mc ad ci r_6)) H := hP
        refine lv_if_eq (tgt := 123) hx hb dX7_gather_45 (by decide) (fun c_8 => ?_) (fun c_8 => ?_)
        · have h := h.1 c_8
          obtain ⟨x1_9, ex1_9⟩ : ∃ z : Int32, z = x1 + 1 := ⟨_, rfl⟩
          have h := h x1_9 ex1_9
          refine lv_iinc (v := x1_9) (lv' := [(1, .int x1_9), (0, .ref (ad 0))]) hx hb dX7_gather_123 hl (k := 1) rfl (by rw [ex1_9]; rfl) (by decide) rfl (fun ls hl => ?_)
          refine lv_goto (tgt := 7) hx hb dX7_gather_126 (by decide) ?_
          exact ih x1_9 r_6 _ _ _ h hP hS (lv_sub hl [1, 0] rfl)
        · have h := h.2 c_8
          refine lv_aload_n hx hb dX7_gather_48 rfl (lv_at hl 0 rfl) ?_
          refine lv_iload_n hx hb dX7_gather_49 rfl (lv_at hl 1 rfl) ?_
          refine lv_iconst (v := (1 : Int32)) hx hb dX7_gather_50 (by decide) ?_
          refine va_calll (va_runV (As := [.int x1, .int (1 : Int32)]) (rest := []) ⟨hx, hb, C0.2.2.1, hown, hts⟩ (qX7_get l dC dI ad ci A hAD r_6 x1 (1 : Int32) _ h) (cwV 2 hts gX7_gather_X7_get rfl rfl rfl (by decide +kernel) ⟨Nat.le_of_ble_eq_true rfl, Nat.le_of_ble_eq_true rfl⟩) ⟨xr_blind, xr_recv (r := (RX7, TX7, 9)) hK hP 0 (by decide) me_M rfl, xr_pre hP hK⟩ rfl rfl hl.1 rfl (lv_room (Nat.le_of_ble_eq_true rfl)) dX7_gather_51 ⟨Nat.le_of_ble_eq_true rfl, Nat.le_of_ble_eq_true rfl⟩) hS (fun _ _ h => h) (fun _ h => h) (fun r_10 _ t9 H locs ht hvm h hB _ _ hS => ?_)
          refine W.cs (cells' := 0) (slots' := 0) rfl rfl ?_
          have hP := x_th ht hB
          have hP : va_P (dC, dI) vwCl (xw 7 ad (mc ad ci r_6)) H := hP
          refine lv_ldc2 (v := (2 : Int64)) hx hb hown (hts _ wX7_gather_k99) dX7_gather_54 ?_
          refine xr_if_lcmp_ne (tgt := 123) hx hb dX7_gather_57 dX7_gather_58 (by decide) (fun c_11 => ?_) (fun c_11 => ?_)
          · have h := h.2 c_11
            obtain ⟨x1_12, ex1_12⟩ : ∃ z : Int32, z = x1 + 1 := ⟨_, rfl⟩
            have h := h x1_12 ex1_12
            refine lv_iinc (v := x1_12) (lv' := [(1, .int x1_12), (0, .ref (ad 0))]) hx hb dX7_gather_123 hl (k := 1) rfl (by rw [ex1_12]; rfl) (by decide) rfl (fun ls hl => ?_)
            refine lv_goto (tgt := 7) hx hb dX7_gather_126 (by decide) ?_
            exact ih x1_12 r_6 _ _ _ h hP hS (lv_sub hl [1, 0] rfl)
          · have h := h.1 c_11
            refine lv_aload_n hx hb dX7_gather_61 rfl (lv_at hl 0 rfl) ?_
            refine xr_get (D := (dC, dI)) (C := RX7) (T := TX7) (N := 9) (v := .int (m_lc r_6)) hx hb hts wX7_gather_c7 hown hK hP 0 (by decide) me_M rfl 7 (by decide) wX7_gather_f159 rfl rfl dX7_gather_62 ?_
            refine lv_topi (fun x2_13 ex2_13 => ?_)
            have h := h x2_13 ex2_13
            refine lv_istore_n (lv' := [(2, .int x2_13), (0, .ref (ad 0)), (1, .int x1)]) hx hb dX7_gather_65 rfl hl (by decide) rfl (fun ls hl => ?_)
            obtain ⟨n_28, h⟩ := h
            refine kX7_gather_66 l dC dI ad ci A hAD    x1 _ post C0 ?_ n_28 x2_13 r_6 _ _ _ h hP hS (lv_sub hl [1, 2, 0] rfl)
            · intro x2_22 r_23 H locs ls h hP hS hl
              refine lv_aload_n hx hb dX7_gather_106 rfl (lv_at hl 0 rfl) ?_
              refine xr_get (D := (dC, dI)) (C := RX7) (T := TX7) (N := 9) (v := .ref (ad 4)) hx hb hts wX7_gather_c7 hown hK hP 0 (by decide) me_M rfl 5 (by decide) wX7_gather_f20 rfl rfl dX7_gather_107 ?_
              refine lv_iload_n hx hb dX7_gather_110 rfl (lv_at hl 2 rfl) ?_
              refine lv_iload_n hx hb dX7_gather_111 rfl (lv_at hl 1 rfl) ?_
              obtain ⟨g_24, h⟩ := h
              obtain ⟨r_25, er_25⟩ : ∃ z : MmV, z = m_wlo r_23 (upd (m_lo r_23) (x2_22.toNatClampNeg) x1) := ⟨_, rfl⟩
              have h := h r_25 er_25
              refine xr_iast (k := x2_22.toNatClampNeg) (x := x1) (g := (mc ad ci r_25)) hx hb hK hP hAD hS 4 0 (by decide) me_lo rfl rfl g_24 dX7_gather_112 (by rw [er_25]; exact mg_lo) (fun H locs hP hS => ?_)
              refine lv_aload_n hx hb dX7_gather_113 rfl (lv_at hl 0 rfl) ?_
              refine lv_dup hx hb dX7_gather_114 rfl ?_
              refine xr_get (D := (dC, dI)) (C := RX7) (T := TX7) (N := 9) (v := .int (m_lc r_25)) hx hb hts wX7_gather_c7 hown hK hP 0 (by decide) me_M rfl 7 (by decide) wX7_gather_f159 rfl rfl dX7_gather_115 ?_
              refine lv_iconst (v := (1 : Int32)) hx hb dX7_gather_118 (by decide) ?_
              refine lv_iadd hx hb dX7_gather_119 ?_
              obtain ⟨r_26, er_26⟩ : ∃ z : MmV, z = m_wlc r_25 ((m_lc r_25) + (1 : Int32)) := ⟨_, rfl⟩
              have h := h r_26 er_26
              refine xr_put (D := (dC, dI)) (C := RX7) (T := TX7) (N := 9) (ty := .int) (v := .int ((m_lc r_25) + (1 : Int32))) (g := (mc ad ci r_26)) hx hb hts wX7_gather_c7 tyX7 tyX7_ok nmX7 hown hK hP hAD hS 0 (by decide) me_M rfl 7 (by decide) wX7_gather_f159 rfl rfl (by decide +kernel) rfl rfl (Nat.le_of_ble_eq_true rfl) dX7_gather_120 (by rw [er_26]; exact mg_lc) (fun H locs hP hS => ?_)
              obtain ⟨x1_27, ex1_27⟩ : ∃ z : Int32, z = x1 + 1 := ⟨_, rfl⟩
              have h := h x1_27 ex1_27
              refine lv_iinc (v := x1_27) (lv' := [(1, .int x1_27), (0, .ref (ad 0)), (2, .int x2_22)]) hx hb dX7_gather_123 hl (k := 1) rfl (by rw [ex1_27]; rfl) (by decide) rfl (fun ls hl => ?_)
              refine lv_goto (tgt := 7) hx hb dX7_gather_126 (by decide) ?_
              exact ih x1_27 r_26 _ _ _ h hP hS (lv_sub hl [1, 0] rfl)
      · have h := h.2 c_4
        refine lv_aload_n hx hb dX7_gather_27 rfl (lv_at hl 0 rfl) ?_
        refine lv_iload_n hx hb dX7_gather_28 rfl (lv_at hl 1 rfl) ?_
        refine lv_iconst (v := (3 : Int32)) hx hb dX7_gather_29 (by decide) ?_
        refine va_calll (va_runV (As := [.int x1, .int (3 : Int32)]) (rest := [.int x1, .ref (ad 5)]) ⟨hx, hb, C0.2.2.1, hown, hts⟩ (qX7_get l dC dI ad ci A hAD r x1 (3 : Int32) _ h) (cwV 2 hts gX7_gather_X7_get rfl rfl rfl (by decide +kernel) ⟨Nat.le_of_ble_eq_true rfl, Nat.le_of_ble_eq_true rfl⟩) ⟨xr_blind, xr_recv (r := (RX7, TX7, 9)) hK hP 0 (by decide) me_M rfl, xr_pre hP hK⟩ rfl rfl hl.1 rfl (lv_room (Nat.le_of_ble_eq_true rfl)) dX7_gather_30 ⟨Nat.le_of_ble_eq_true rfl, Nat.le_of_ble_eq_true rfl⟩) hS (fun _ _ h => h) (fun _ h => h) (fun r_29 _ t9 H locs ht hvm h hB _ _ hS => ?_)
        refine W.cs (cells' := 0) (slots' := 0) rfl rfl ?_
        have hP := x_th ht hB
        have hP : va_P (dC, dI) vwCl (xw 7 ad (mc ad ci r)) H := hP
        refine lv_goto (tgt := 39) hx hb dX7_gather_33 (by decide) ?_
        obtain ⟨g_30, h⟩ := h
        obtain ⟨r_31, er_31⟩ : ∃ z : MmV, z = m_wtk r (vp_updL (m_tk r) (x1.toNatClampNeg) r_29) := ⟨_, rfl⟩
        have h := h r_31 er_31
        refine xr_last (k := x1.toNatClampNeg) (x := r_29) (g := (mc ad ci r_31)) hx hb hK hP hAD hS 5 1 (by decide) me_tk rfl rfl g_30 dX7_gather_39 (by rw [er_31]; exact mg_tk) (fun H locs hP hS => ?_)
        refine lv_aload_n hx hb dX7_gather_40 rfl (lv_at hl 0 rfl) ?_
        refine lv_iload_n hx hb dX7_gather_41 rfl (lv_at hl 1 rfl) ?_
        refine va_calli (va_runV (As := [.int x1]) (rest := []) ⟨hx, hb, C0.2.2.1, hown, hts⟩ (qX7_hasTick l dC dI ad ci A hAD r_31 x1 _ h) (cwV 1 hts gX7_gather_X7_hasTick rfl rfl rfl (by decide +kernel) ⟨Nat.le_of_ble_eq_true rfl, Nat.le_of_ble_eq_true rfl⟩) ⟨xr_blind, xr_recv (r := (RX7, TX7, 9)) hK hP 0 (by decide) me_M rfl, xr_pre hP hK⟩ rfl rfl hl.1 rfl (lv_room (Nat.le_of_ble_eq_true rfl)) dX7_gather_42 ⟨Nat.le_of_ble_eq_true rfl, Nat.le_of_ble_eq_true rfl⟩) hS (fun _ _ h => h) (fun _ h => h) (fun r_32 _ t9 H locs ht hvm h hB _ _ hS => ?_)
        refine W.cs (cells' := 0) (slots' := 0) rfl rfl ?_
        have hP := x_th ht hB
        have hP : va_P (dC, dI) vwCl (xw 7 ad (mc ad ci r_31)) H := hP
        refine lv_if_eq (tgt := 123) hx hb dX7_gather_45 (by decide) (fun c_33 => ?_) (fun c_33 => ?_)
        · have h := h.1 c_33
          obtain ⟨x1_34, ex1_34⟩ : ∃ z : Int32, z = x1 + 1 := ⟨_, rfl⟩
          have h := h x1_34 ex1_34
          refine lv_iinc (v := x1_34) (lv' := [(1, .int x1_34), (0, .ref (ad 0))]) hx hb dX7_gather_123 hl (k := 1) rfl (by rw [ex1_34]; rfl) (by decide) rfl (fun ls hl => ?_)
          refine lv_goto (tgt := 7) hx hb dX7_gather_126 (by decide) ?_
          exact ih x1_34 r_31 _ _ _ h hP hS (lv_sub hl [1, 0] rfl)
        · have h := h.2 c_33
          refine lv_aload_n hx hb dX7_gather_48 rfl (lv_at hl 0 rfl) ?_
          refine lv_iload_n hx hb dX7_gather_49 rfl (lv_at hl 1 rfl) ?_
          refine lv_iconst (v := (1 : Int32)) hx hb dX7_gather_50 (by decide) ?_
          refine va_calll (va_runV (As := [.int x1, .int (1 : Int32)]) (rest := []) ⟨hx, hb, C0.2.2.1, hown, hts⟩ (qX7_get l dC dI ad ci A hAD r_31 x1 (1 : Int32) _ h) (cwV 2 hts gX7_gather_X7_get rfl rfl rfl (by decide +kernel) ⟨Nat.le_of_ble_eq_true rfl, Nat.le_of_ble_eq_true rfl⟩) ⟨xr_blind, xr_recv (r := (RX7, TX7, 9)) hK hP 0 (by decide) me_M rfl, xr_pre hP hK⟩ rfl rfl hl.1 rfl (lv_room (Nat.le_of_ble_eq_true rfl)) dX7_gather_51 ⟨Nat.le_of_ble_eq_true rfl, Nat.le_of_ble_eq_true rfl⟩) hS (fun _ _ h => h) (fun _ h => h) (fun r_35 _ t9 H locs ht hvm h hB _ _ hS => ?_)
          refine W.cs (cells' := 0) (slots' := 0) rfl rfl ?_
          have hP := x_th ht hB
          have hP : va_P (dC, dI) vwCl (xw 7 ad (mc ad ci r_31)) H := hP
          refine lv_ldc2 (v := (2 : Int64)) hx hb hown (hts _ wX7_gather_k99) dX7_gather_54 ?_
          refine xr_if_lcmp_ne (tgt := 123) hx hb dX7_gather_57 dX7_gather_58 (by decide) (fun c_36 => ?_) (fun c_36 => ?_)
          · have h := h.2 c_36
            obtain ⟨x1_37, ex1_37⟩ : ∃ z : Int32, z = x1 + 1 := ⟨_, rfl⟩
            have h := h x1_37 ex1_37
            refine lv_iinc (v := x1_37) (lv' := [(1, .int x1_37), (0, .ref (ad 0))]) hx hb dX7_gather_123 hl (k := 1) rfl (by rw [ex1_37]; rfl) (by decide) rfl (fun ls hl => ?_)
            refine lv_goto (tgt := 7) hx hb dX7_gather_126 (by decide) ?_
            exact ih x1_37 r_31 _ _ _ h hP hS (lv_sub hl [1, 0] rfl)
          · have h := h.1 c_36
            refine lv_aload_n hx hb dX7_gather_61 rfl (lv_at hl 0 rfl) ?_
            refine xr_get (D := (dC, dI)) (C := RX7) (T := TX7) (N := 9) (v := .int (m_lc r_31)) hx hb hts wX7_gather_c7 hown hK hP 0 (by decide) me_M rfl 7 (by decide) wX7_gather_f159 rfl rfl dX7_gather_62 ?_
            refine lv_topi (fun x2_38 ex2_38 => ?_)
            have h := h x2_38 ex2_38
            refine lv_istore_n (lv' := [(2, .int x2_38), (0, .ref (ad 0)), (1, .int x1)]) hx hb dX7_gather_65 rfl hl (by decide) rfl (fun ls hl => ?_)
            obtain ⟨n_45, h⟩ := h
            refine kX7_gather_66 l dC dI ad ci A hAD    x1 _ post C0 ?_ n_45 x2_38 r_31 _ _ _ h hP hS (lv_sub hl [1, 2, 0] rfl)
            · intro x2_39 r_40 H locs ls h hP hS hl
              refine lv_aload_n hx hb dX7_gather_106 rfl (lv_at hl 0 rfl) ?_
              refine xr_get (D := (dC, dI)) (C := RX7) (T := TX7) (N := 9) (v := .ref (ad 4)) hx hb hts wX7_gather_c7 hown hK hP 0 (by decide) me_M rfl 5 (by decide) wX7_gather_f20 rfl rfl dX7_gather_107 ?_
              refine lv_iload_n hx hb dX7_gather_110 rfl (lv_at hl 2 rfl) ?_
              refine lv_iload_n hx hb dX7_gather_111 rfl (lv_at hl 1 rfl) ?_
              obtain ⟨g_41, h⟩ := h
              obtain ⟨r_42, er_42⟩ : ∃ z : MmV, z = m_wlo r_40 (upd (m_lo r_40) (x2_39.toNatClampNeg) x1) := ⟨_, rfl⟩
              have h := h r_42 er_42
              refine xr_iast (k := x2_39.toNatClampNeg) (x := x1) (g := (mc ad ci r_42)) hx hb hK hP hAD hS 4 0 (by decide) me_lo rfl rfl g_41 dX7_gather_112 (by rw [er_42]; exact mg_lo) (fun H locs hP hS => ?_)
              refine lv_aload_n hx hb dX7_gather_113 rfl (lv_at hl 0 rfl) ?_
              refine lv_dup hx hb dX7_gather_114 rfl ?_
              refine xr_get (D := (dC, dI)) (C := RX7) (T := TX7) (N := 9) (v := .int (m_lc r_42)) hx hb hts wX7_gather_c7 hown hK hP 0 (by decide) me_M rfl 7 (by decide) wX7_gather_f159 rfl rfl dX7_gather_115 ?_
              refine lv_iconst (v := (1 : Int32)) hx hb dX7_gather_118 (by decide) ?_
              refine lv_iadd hx hb dX7_gather_119 ?_
              obtain ⟨r_43, er_43⟩ : ∃ z : MmV, z = m_wlc r_42 ((m_lc r_42) + (1 : Int32)) := ⟨_, rfl⟩
              have h := h r_43 er_43
              refine xr_put (D := (dC, dI)) (C := RX7) (T := TX7) (N := 9) (ty := .int) (v := .int ((m_lc r_42) + (1 : Int32))) (g := (mc ad ci r_43)) hx hb hts wX7_gather_c7 tyX7 tyX7_ok nmX7 hown hK hP hAD hS 0 (by decide) me_M rfl 7 (by decide) wX7_gather_f159 rfl rfl (by decide +kernel) rfl rfl (Nat.le_of_ble_eq_true rfl) dX7_gather_120 (by rw [er_43]; exact mg_lc) (fun H locs hP hS => ?_)
              obtain ⟨x1_44, ex1_44⟩ : ∃ z : Int32, z = x1 + 1 := ⟨_, rfl⟩
              have h := h x1_44 ex1_44
              refine lv_iinc (v := x1_44) (lv' := [(1, .int x1_44), (0, .ref (ad 0)), (2, .int x2_39)]) hx hb dX7_gather_123 hl (k := 1) rfl (by rw [ex1_44]; rfl) (by decide) rfl (fun ls hl => ?_)
              refine lv_goto (tgt := 7) hx hb dX7_gather_126 (by decide) ?_
              exact ih x1_44 r_43 _ _ _ h hP hS (lv_sub hl [1, 0] rfl)
def PX7_gather  (r : MmV)  (post : MmV → Prop) : Prop :=
  ∀ r_1 : MmV, r_1 = m_wlc r (0 : Int32) → (∃ n_46 : Nat, LX7_gather_7    post n_46 (0 : Int32) r_1)
set_option maxHeartbeats 4000000 in
set_option maxRecDepth 100000 in
theorem qX7_gather (l : Launch) (dC : Nat → ClassId) (dI : Nat → Nat → Nat) (ad : Nat → Nat) (ci : Nat → ClassId) (A : Nat → Prop) (hAD : xw_D 7 ad A) (r : MmV)  (post : MmV → Prop) (h : PX7_gather r post) : Met l yX7_gather wsX7_gather rmX7_gather (va_Pc [.ref (ad 0)] (fun U => va_P (dC, dI) vwCl (xw 7 ad (mc ad ci r)) U.heap ∧ va_K (dC, dI) vwCl (xT ci) U)) (va_Qv (fun u : MmV => post u) (fun u t => va_P (dC, dI) vwCl (xw 7 ad (mc ad ci u)) t.heap) A) 0 0 A := by
  refine Met.ofW (cc := cX7_gather) (maxL := 3) (ret := none) (by decide) rfl ?_
  intro p e s m args below meth c s₁ B hml hv
  obtain ⟨eargs, hP, hK⟩ := hv
  have C0 : xC p s m args meth c cX7_gather 3 none RX7 wsX7_gather (dC, dI) (xT ci) := ⟨B.exec, B.bytes, hml, B.returns, B.notSynchronized, findClass_of_methodNamed B.named, atoms_spec (ws := wsX7_gather) B.pre, hK⟩
  obtain ⟨hx, hb, -, hr, hlocks, hown, hts, -⟩ := id C0
  have hS : va_S A s.heap s.heap [] := va_S.rf
  have hl := lv_entry ([.ref (ad 0)]) (n := 3) (Nat.le_of_ble_eq_true rfl)
  have ef : entryFrame m args 3 = entryFrame m ([.ref (ad 0)] : List Value).toArray 3 := by rw [eargs]
  rw [ef, lg_entry_eq]
  generalize (lg_sl ([.ref (ad 0)]) ++ List.replicate (3 - (lg_sl ([.ref (ad 0)])).length) Slot.unset).toArray = ls at hl ⊢
  have hl : lv_has ls 3 [(0, .ref (ad 0))] := hl
  have hP : va_P (dC, dI) vwCl (xw 7 ad (mc ad ci r)) s.heap := hP
  unfold PX7_gather at h
  refine lv_aload_n hx hb dX7_gather_0 rfl (lv_at hl 0 rfl) ?_
  refine lv_iconst (v := (0 : Int32)) hx hb dX7_gather_1 (by decide) ?_
  obtain ⟨r_1, er_1⟩ : ∃ z : MmV, z = m_wlc r (0 : Int32) := ⟨_, rfl⟩
  have h := h r_1 er_1
  refine xr_put (D := (dC, dI)) (C := RX7) (T := TX7) (N := 9) (ty := .int) (v := .int (0 : Int32)) (g := (mc ad ci r_1)) hx hb hts wX7_gather_c7 tyX7 tyX7_ok nmX7 hown hK hP hAD hS 0 (by decide) me_M rfl 7 (by decide) wX7_gather_f159 rfl rfl (by decide +kernel) rfl rfl (Nat.le_of_ble_eq_true rfl) dX7_gather_2 (by rw [er_1]; exact mg_lc) (fun H locs hP hS => ?_)
  refine lv_iconst (v := (0 : Int32)) hx hb dX7_gather_5 (by decide) ?_
  refine lv_istore_n (lv' := [(1, .int (0 : Int32)), (0, .ref (ad 0))]) hx hb dX7_gather_6 rfl hl (by decide) rfl (fun ls hl => ?_)
  obtain ⟨n_46, h⟩ := h
  exact kX7_gather_7 l dC dI ad ci A hAD      post C0  n_46 (0 : Int32) r_1 _ _ _ h hP hS (lv_sub hl [1, 0] rfl)
abbrev rmX7_fastIn : Room := { frames := 1, cells := 0, slots := 0, locals := 25 }
theorem wX7_fastIn_k48 : Cond.constantLong RX7 48 (-2000000005) ∈ wsX7_fastIn := by decide +kernel
theorem wX7_fastIn_c7 : ∀ w ∈ u_ws RX7 TX7 9, w ∈ wsX7_fastIn := by decide +kernel
theorem wX7_fastIn_f23 : Cond.fieldLink RX7 23 "DueWheelsModel" "ticks" "[J" ∈ wsX7_fastIn := by decide +kernel
theorem wX7_fastIn_f26 : Cond.fieldLink RX7 26 "DueWheelsModel" "isFast" "[Z" ∈ wsX7_fastIn := by decide +kernel
theorem wX7_fastIn_f7 : Cond.fieldLink RX7 7 "DueWheelsModel" "s" "[J" ∈ wsX7_fastIn := by decide +kernel
def LX7_fastIn_46  (r : MmV) (x1 : Int32) (x2 : Int64)  (post : Int64 → Prop) : Nat → Int64 → Int32 → Prop
  | 0, _, _ => False
  | n + 1, x4, x6 => (((200 : Int32) ≤ x6 → post x4) ∧ (¬ (200 : Int32) ≤ x6 → (vp_in x6 200 ∧ (((m_fs r (x6.toNatClampNeg)) = 0 → ∀ x6_8 : Int32, x6_8 = x6 + 1 → LX7_fastIn_46  r x1 x2 post n x4 x6_8) ∧ (¬ (m_fs r (x6.toNatClampNeg)) = 0 → (vp_in x6 200 ∧ (PX7_get r x1 (3 : Int32) (fun (r_10 : Int64) => (PX7_isIn (m_tk r (x6.toNatClampNeg)) x2 r_10 (fun (r_11 : Int32) => ((r_11 = 0 → ∀ x6_14 : Int32, x6_14 = x6 + 1 → LX7_fastIn_46  r x1 x2 post n x4 x6_14) ∧ (¬ r_11 = 0 → ((x4 = (-2000000005 : Int64) → (vp_in x6 200 ∧ ∀ x4_18 : Int64, x4_18 = (m_tk r (x6.toNatClampNeg)) → ∀ x6_19 : Int32, x6_19 = x6 + 1 → LX7_fastIn_46  r x1 x2 post n x4_18 x6_19)) ∧ (¬ x4 = (-2000000005 : Int64) → (vp_in x6 200 ∧ ((x4 ≤ (m_tk r (x6.toNatClampNeg)) → ∀ x6_22 : Int32, x6_22 = x6 + 1 → LX7_fastIn_46  r x1 x2 post n x4 x6_22) ∧ (¬ x4 ≤ (m_tk r (x6.toNatClampNeg)) → (vp_in x6 200 ∧ ∀ x4_24 : Int64, x4_24 = (m_tk r (x6.toNatClampNeg)) → ∀ x6_25 : Int32, x6_25 = x6 + 1 → LX7_fastIn_46  r x1 x2 post n x4_24 x6_25))))))))))))))))))
set_option maxHeartbeats 4000000 in
set_option maxRecDepth 100000 in
theorem kX7_fastIn_46 {p : Program} {e : Env} {s : State} {m : MethodId} {args : Array Value} {below : List Frame} {meth : Method} {c : Code} (l : Launch) (dC : Nat → ClassId) (dI : Nat → Nat → Nat) (ad : Nat → Nat) (ci : Nat → ClassId) (A : Nat → Prop) (hAD : xw_D 7 ad A) (r : MmV) (x1 : Int32) (x2 : Int64)  (post : Int64 → Prop) (C0 : xC p s m args meth c cX7_fastIn 8 (some .long) RX7 wsX7_fastIn (dC, dI) (xT ci)) : ∀ (n : Nat) (x4 : Int64) (x6 : Int32) (H : Heap) (locs : List Loc) (ls : Array Slot), LX7_fastIn_46  r x1 x2 post n x4 x6 → va_P (dC, dI) vwCl (xw 7 ad (mc ad ci r)) H → va_S A s.heap H locs → lv_has ls 8 [(0, .ref (ad 0)), (1, .int x1), (2, .long x2), (4, .long x4), (6, .int x6)] → W p l e rmX7_fastIn s m args below meth c H locs 0 0 (MQ below (va_Ql (fun r9 (u : Unit) => post r9 ) (fun u t => va_P (dC, dI) vwCl (xw 7 ad (mc ad ci r)) t.heap) A) args s 0 0 A) (F0 m 46 ls []) := by
  obtain ⟨hx, hb, -, hr, hlocks, hown, hts, hK⟩ := id C0
  intro n
  induction n with
  | zero =>
    intro x4 x6 H locs ls h
    exact False.elim h
  | succ n ih =>
    intro x4 x6 H locs ls h hP hS hl
    rw [LX7_fastIn_46] at h
    refine lv_iload hx hb dX7_fastIn_46 (lv_at hl 4 rfl) ?_
    refine lv_sipush (v := (200 : Int32)) hx hb dX7_fastIn_48 (by decide) ?_
    refine lv_icmp_ge (tgt := 138) hx hb dX7_fastIn_51 (by decide) (fun c_4 => ?_) (fun c_4 => ?_)
    · have h := h.1 c_4
      refine lv_lload hx hb dX7_fastIn_138 (lv_at hl 3 rfl) ?_
      exact W.lret (v := x4) hx hb hr (fun t ht hW => ⟨⟨x4, (), rfl, h, x_ht ht hP⟩, hS.F ht⟩) hS.2.2 dX7_fastIn_140
    · have h := h.2 c_4
      refine lv_aload_n hx hb dX7_fastIn_54 rfl (lv_at hl 0 rfl) ?_
      refine xr_get (D := (dC, dI)) (C := RX7) (T := TX7) (N := 9) (v := .ref (ad 6)) hx hb hts wX7_fastIn_c7 hown hK hP 0 (by decide) me_M rfl 8 (by decide) wX7_fastIn_f26 rfl rfl dX7_fastIn_55 ?_
      refine lv_iload hx hb dX7_fastIn_58 (lv_at hl 4 rfl) ?_
      obtain ⟨g_5, h⟩ := h
      refine xr_zald (k := x6.toNatClampNeg) hx hb hK hP 6 2 (by decide) me_fs rfl rfl g_5 dX7_fastIn_60 ?_
      refine lv_if_eq (tgt := 88) hx hb dX7_fastIn_61 (by decide) (fun c_6 => ?_) (fun c_6 => ?_)
      · have h := h.1 c_6
        refine lv_iconst (v := (0 : Int32)) hx hb dX7_fastIn_88 (by decide) ?_
        refine lv_istore (lv' := [(7, .int (0 : Int32)), (0, .ref (ad 0)), (1, .int x1), (2, .long x2), (4, .long x4), (6, .int x6)]) hx hb dX7_fastIn_89 hl (by decide) rfl (fun ls hl => ?_)
        refine lv_iload hx hb dX7_fastIn_91 (lv_at hl 0 rfl) ?_
        refine lv_if_eq (tgt := 128) hx hb dX7_fastIn_93 (by decide) (fun c_7 => ?_) (fun c_7 => ?_)
        · refine lv_lload hx hb dX7_fastIn_128 (lv_at hl 4 rfl) ?_
          refine lv_lstore (lv' := [(4, .long x4), (7, .int (0 : Int32)), (0, .ref (ad 0)), (1, .int x1), (2, .long x2), (6, .int x6)]) hx hb dX7_fastIn_130 hl (by decide) rfl (fun ls hl => ?_)
          obtain ⟨x6_8, ex6_8⟩ : ∃ z : Int32, z = x6 + 1 := ⟨_, rfl⟩
          have h := h x6_8 ex6_8
          refine lv_iinc (v := x6_8) (lv' := [(6, .int x6_8), (4, .long x4), (7, .int (0 : Int32)), (0, .ref (ad 0)), (1, .int x1), (2, .long x2)]) hx hb dX7_fastIn_132 hl (k := 5) rfl (by rw [ex6_8]; rfl) (by decide) rfl (fun ls hl => ?_)
          refine lv_goto (tgt := 46) hx hb dX7_fastIn_135 (by decide) ?_
          exact ih x4 x6_8 _ _ _ h hP hS (lv_sub hl [3, 4, 5, 1, 0] rfl)
        · exact absurd c_7 (by decide)
      · have h := h.2 c_6
        refine lv_aload_n hx hb dX7_fastIn_64 rfl (lv_at hl 0 rfl) ?_
        refine xr_get (D := (dC, dI)) (C := RX7) (T := TX7) (N := 9) (v := .ref (ad 5)) hx hb hts wX7_fastIn_c7 hown hK hP 0 (by decide) me_M rfl 6 (by decide) wX7_fastIn_f23 rfl rfl dX7_fastIn_65 ?_
        refine lv_iload hx hb dX7_fastIn_68 (lv_at hl 4 rfl) ?_
        obtain ⟨g_9, h⟩ := h
        refine xr_lald (k := x6.toNatClampNeg) hx hb hK hP 5 1 (by decide) me_tk rfl rfl g_9 dX7_fastIn_70 ?_
        refine lv_lload_n hx hb dX7_fastIn_71 rfl (lv_at hl 2 rfl) ?_
        refine lv_aload_n hx hb dX7_fastIn_72 rfl (lv_at hl 0 rfl) ?_
        refine lv_iload_n hx hb dX7_fastIn_73 rfl (lv_at hl 1 rfl) ?_
        refine lv_iconst (v := (3 : Int32)) hx hb dX7_fastIn_74 (by decide) ?_
        refine va_calll (va_runV (As := [.int x1, .int (3 : Int32)]) (rest := [.long x2, .long (m_tk r (x6.toNatClampNeg))]) ⟨hx, hb, C0.2.2.1, hown, hts⟩ (qX7_get l dC dI ad ci A hAD r x1 (3 : Int32) _ h) (cwV 2 hts gX7_fastIn_X7_get rfl rfl rfl (by decide +kernel) ⟨Nat.le_of_ble_eq_true rfl, Nat.le_of_ble_eq_true rfl⟩) ⟨xr_blind, xr_recv (r := (RX7, TX7, 9)) hK hP 0 (by decide) me_M rfl, xr_pre hP hK⟩ rfl rfl hl.1 rfl (lv_room (Nat.le_of_ble_eq_true rfl)) dX7_fastIn_75 ⟨Nat.le_of_ble_eq_true rfl, Nat.le_of_ble_eq_true rfl⟩) hS (fun _ _ h => h) (fun _ h => h) (fun r_10 _ t9 H locs ht hvm h hB _ _ hS => ?_)
        refine W.cs (cells' := 0) (slots' := 0) rfl rfl ?_
        have hP := x_th ht hB
        have hP : va_P (dC, dI) vwCl (xw 7 ad (mc ad ci r)) H := hP
        refine va_calli (va_runS (As := [.long (m_tk r (x6.toNatClampNeg)), .long x2, .long r_10]) (rest := []) ⟨hx, hb, C0.2.2.1, hown, hts⟩ (qX7_isIn l dC dI 7 ad (mc ad ci r) (xT ci) A (m_tk r (x6.toNatClampNeg)) x2 r_10 _ h) (va_cwS 3 hts gX7_fastIn_X7_isIn rfl rfl rfl (by decide +kernel) ⟨Nat.le_of_ble_eq_true rfl, Nat.le_of_ble_eq_true rfl⟩) ⟨xr_blind, xr_pre hP hK⟩ rfl rfl hl.1 rfl (lv_room (Nat.le_of_ble_eq_true rfl)) dX7_fastIn_78 ⟨Nat.le_of_ble_eq_true rfl, Nat.le_of_ble_eq_true rfl⟩) hS (fun _ _ h => h) (fun _ h => h) (fun r_11 _ t9 H locs ht hvm h hB _ _ hS => ?_)
        refine W.cs (cells' := 0) (slots' := 0) rfl rfl ?_
        have hP := x_th ht hB
        have hP : va_P (dC, dI) vwCl (xw 7 ad (mc ad ci r)) H := hP
        refine lv_if_eq (tgt := 88) hx hb dX7_fastIn_81 (by decide) (fun c_12 => ?_) (fun c_12 => ?_)
        · have h := h.1 c_12
          refine lv_iconst (v := (0 : Int32)) hx hb dX7_fastIn_88 (by decide) ?_
          refine lv_istore (lv' := [(7, .int (0 : Int32)), (0, .ref (ad 0)), (1, .int x1), (2, .long x2), (4, .long x4), (6, .int x6)]) hx hb dX7_fastIn_89 hl (by decide) rfl (fun ls hl => ?_)
          refine lv_iload hx hb dX7_fastIn_91 (lv_at hl 0 rfl) ?_
          refine lv_if_eq (tgt := 128) hx hb dX7_fastIn_93 (by decide) (fun c_13 => ?_) (fun c_13 => ?_)
          · refine lv_lload hx hb dX7_fastIn_128 (lv_at hl 4 rfl) ?_
            refine lv_lstore (lv' := [(4, .long x4), (7, .int (0 : Int32)), (0, .ref (ad 0)), (1, .int x1), (2, .long x2), (6, .int x6)]) hx hb dX7_fastIn_130 hl (by decide) rfl (fun ls hl => ?_)
            obtain ⟨x6_14, ex6_14⟩ : ∃ z : Int32, z = x6 + 1 := ⟨_, rfl⟩
            have h := h x6_14 ex6_14
            refine lv_iinc (v := x6_14) (lv' := [(6, .int x6_14), (4, .long x4), (7, .int (0 : Int32)), (0, .ref (ad 0)), (1, .int x1), (2, .long x2)]) hx hb dX7_fastIn_132 hl (k := 5) rfl (by rw [ex6_14]; rfl) (by decide) rfl (fun ls hl => ?_)
            refine lv_goto (tgt := 46) hx hb dX7_fastIn_135 (by decide) ?_
            exact ih x4 x6_14 _ _ _ h hP hS (lv_sub hl [3, 4, 5, 1, 0] rfl)
          · exact absurd c_13 (by decide)
        · have h := h.2 c_12
          refine lv_iconst (v := (1 : Int32)) hx hb dX7_fastIn_84 (by decide) ?_
          refine lv_goto (tgt := 89) hx hb dX7_fastIn_85 (by decide) ?_
          refine lv_istore (lv' := [(7, .int (1 : Int32)), (0, .ref (ad 0)), (1, .int x1), (2, .long x2), (4, .long x4), (6, .int x6)]) hx hb dX7_fastIn_89 hl (by decide) rfl (fun ls hl => ?_)
          refine lv_iload hx hb dX7_fastIn_91 (lv_at hl 0 rfl) ?_
          refine lv_if_eq (tgt := 128) hx hb dX7_fastIn_93 (by decide) (fun c_15 => ?_) (fun c_15 => ?_)
          · exact absurd c_15 (by decide)
          · refine lv_lload hx hb dX7_fastIn_96 (lv_at hl 4 rfl) ?_
            refine lv_ldc2 (v := (-2000000005 : Int64)) hx hb hown (hts _ wX7_fastIn_k48) dX7_fastIn_98 ?_
            refine xr_if_lcmp_eq (tgt := 118) hx hb dX7_fastIn_101 dX7_fastIn_102 (by decide) (fun c_16 => ?_) (fun c_16 => ?_)
            · have h := h.1 c_16
              refine lv_aload_n hx hb dX7_fastIn_118 rfl (lv_at hl 1 rfl) ?_
              refine xr_get (D := (dC, dI)) (C := RX7) (T := TX7) (N := 9) (v := .ref (ad 5)) hx hb hts wX7_fastIn_c7 hown hK hP 0 (by decide) me_M rfl 6 (by decide) wX7_fastIn_f23 rfl rfl dX7_fastIn_119 ?_
              refine lv_iload hx hb dX7_fastIn_122 (lv_at hl 5 rfl) ?_
              obtain ⟨g_17, h⟩ := h
              refine xr_lald (k := x6.toNatClampNeg) hx hb hK hP 5 1 (by decide) me_tk rfl rfl g_17 dX7_fastIn_124 ?_
              refine lv_goto (tgt := 130) hx hb dX7_fastIn_125 (by decide) ?_
              refine lv_topl (fun x4_18 ex4_18 => ?_)
              have h := h x4_18 ex4_18
              refine lv_lstore (lv' := [(4, .long x4_18), (7, .int (1 : Int32)), (0, .ref (ad 0)), (1, .int x1), (2, .long x2), (6, .int x6)]) hx hb dX7_fastIn_130 hl (by decide) rfl (fun ls hl => ?_)
              obtain ⟨x6_19, ex6_19⟩ : ∃ z : Int32, z = x6 + 1 := ⟨_, rfl⟩
              have h := h x6_19 ex6_19
              refine lv_iinc (v := x6_19) (lv' := [(6, .int x6_19), (4, .long x4_18), (7, .int (1 : Int32)), (0, .ref (ad 0)), (1, .int x1), (2, .long x2)]) hx hb dX7_fastIn_132 hl (k := 5) rfl (by rw [ex6_19]; rfl) (by decide) rfl (fun ls hl => ?_)
              refine lv_goto (tgt := 46) hx hb dX7_fastIn_135 (by decide) ?_
              exact ih x4_18 x6_19 _ _ _ h hP hS (lv_sub hl [3, 4, 5, 1, 0] rfl)
            · have h := h.2 c_16
              refine lv_aload_n hx hb dX7_fastIn_105 rfl (lv_at hl 1 rfl) ?_
              refine xr_get (D := (dC, dI)) (C := RX7) (T := TX7) (N := 9) (v := .ref (ad 5)) hx hb hts wX7_fastIn_c7 hown hK hP 0 (by decide) me_M rfl 6 (by decide) wX7_fastIn_f23 rfl rfl dX7_fastIn_106 ?_
              refine lv_iload hx hb dX7_fastIn_109 (lv_at hl 5 rfl) ?_
              obtain ⟨g_20, h⟩ := h
              refine xr_lald (k := x6.toNatClampNeg) hx hb hK hP 5 1 (by decide) me_tk rfl rfl g_20 dX7_fastIn_111 ?_
              refine lv_lload hx hb dX7_fastIn_112 (lv_at hl 4 rfl) ?_
              refine xr_if_lcmp_ge (tgt := 128) hx hb dX7_fastIn_114 dX7_fastIn_115 (by decide) (fun c_21 => ?_) (fun c_21 => ?_)
              · have h := h.1 c_21
                refine lv_lload hx hb dX7_fastIn_128 (lv_at hl 4 rfl) ?_
                refine lv_lstore (lv' := [(4, .long x4), (7, .int (1 : Int32)), (0, .ref (ad 0)), (1, .int x1), (2, .long x2), (6, .int x6)]) hx hb dX7_fastIn_130 hl (by decide) rfl (fun ls hl => ?_)
                obtain ⟨x6_22, ex6_22⟩ : ∃ z : Int32, z = x6 + 1 := ⟨_, rfl⟩
                have h := h x6_22 ex6_22
                refine lv_iinc (v := x6_22) (lv' := [(6, .int x6_22), (4, .long x4), (7, .int (1 : Int32)), (0, .ref (ad 0)), (1, .int x1), (2, .long x2)]) hx hb dX7_fastIn_132 hl (k := 5) rfl (by rw [ex6_22]; rfl) (by decide) rfl (fun ls hl => ?_)
                refine lv_goto (tgt := 46) hx hb dX7_fastIn_135 (by decide) ?_
                exact ih x4 x6_22 _ _ _ h hP hS (lv_sub hl [3, 4, 5, 1, 0] rfl)
              · have h := h.2 c_21
                refine lv_aload_n hx hb dX7_fastIn_118 rfl (lv_at hl 1 rfl) ?_
                refine xr_get (D := (dC, dI)) (C := RX7) (T := TX7) (N := 9) (v := .ref (ad 5)) hx hb hts wX7_fastIn_c7 hown hK hP 0 (by decide) me_M rfl 6 (by decide) wX7_fastIn_f23 rfl rfl dX7_fastIn_119 ?_
                refine lv_iload hx hb dX7_fastIn_122 (lv_at hl 5 rfl) ?_
                obtain ⟨g_23, h⟩ := h
                refine xr_lald (k := x6.toNatClampNeg) hx hb hK hP 5 1 (by decide) me_tk rfl rfl g_23 dX7_fastIn_124 ?_
                refine lv_goto (tgt := 130) hx hb dX7_fastIn_125 (by decide) ?_
                refine lv_topl (fun x4_24 ex4_24 => ?_)
                have h := h x4_24 ex4_24
                refine lv_lstore (lv' := [(4, .long x4_24), (7, .int (1 : Int32)), (0, .ref (ad 0)), (1, .int x1), (2, .long x2), (6, .int x6)]) hx hb dX7_fastIn_130 hl (by decide) rfl (fun ls hl => ?_)
                obtain ⟨x6_25, ex6_25⟩ : ∃ z : Int32, z = x6 + 1 := ⟨_, rfl⟩
                have h := h x6_25 ex6_25
                refine lv_iinc (v := x6_25) (lv' := [(6, .int x6_25), (4, .long x4_24), (7, .int (1 : Int32)), (0, .ref (ad 0)), (1, .int x1), (2, .long x2)]) hx hb dX7_fastIn_132 hl (k := 5) rfl (by rw [ex6_25]; rfl) (by decide) rfl (fun ls hl => ?_)
                refine lv_goto (tgt := 46) hx hb dX7_fastIn_135 (by decide) ?_
                exact ih x4_24 x6_25 _ _ _ h hP hS (lv_sub hl [3, 4, 5, 1, 0] rfl)
def PX7_fastIn  (r : MmV) (x1 : Int32) (post : Int64 → Prop) : Prop :=
  (PX7_get r x1 (4 : Int32) (fun (r_1 : Int64) => ((r_1 ≤ (m_s r 3700) → ∀ x2_3 : Int64, x2_3 = ((m_s r 3700) + (1 : Int64)) → (∃ n_26 : Nat, LX7_fastIn_46  r x1 x2_3  post n_26 (-2000000005 : Int64) (0 : Int32))) ∧ (¬ r_1 ≤ (m_s r 3700) → (PX7_get r x1 (4 : Int32) (fun (r_27 : Int64) => (∃ n_28 : Nat, LX7_fastIn_46  r x1 r_27  post n_28 (-2000000005 : Int64) (0 : Int32))))))))
set_option maxHeartbeats 4000000 in
set_option maxRecDepth 100000 in
theorem qX7_fastIn (l : Launch) (dC : Nat → ClassId) (dI : Nat → Nat → Nat) (ad : Nat → Nat) (ci : Nat → ClassId) (A : Nat → Prop) (hAD : xw_D 7 ad A) (r : MmV) (x1 : Int32) (post : Int64 → Prop) (h : PX7_fastIn r x1 post) : Met l yX7_fastIn wsX7_fastIn rmX7_fastIn (va_Pc [.ref (ad 0), .int x1] (fun U => va_P (dC, dI) vwCl (xw 7 ad (mc ad ci r)) U.heap ∧ va_K (dC, dI) vwCl (xT ci) U)) (va_Ql (fun r9 (u : Unit) => post r9 ) (fun u t => va_P (dC, dI) vwCl (xw 7 ad (mc ad ci r)) t.heap) A) 0 0 A := by
  refine Met.ofW (cc := cX7_fastIn) (maxL := 8) (ret := (some .long)) (by decide) rfl ?_
  intro p e s m args below meth c s₁ B hml hv
  obtain ⟨eargs, hP, hK⟩ := hv
  have C0 : xC p s m args meth c cX7_fastIn 8 (some .long) RX7 wsX7_fastIn (dC, dI) (xT ci) := ⟨B.exec, B.bytes, hml, B.returns, B.notSynchronized, findClass_of_methodNamed B.named, atoms_spec (ws := wsX7_fastIn) B.pre, hK⟩
  obtain ⟨hx, hb, -, hr, hlocks, hown, hts, -⟩ := id C0
  have hS : va_S A s.heap s.heap [] := va_S.rf
  have hl := lv_entry ([.ref (ad 0), .int x1]) (n := 8) (Nat.le_of_ble_eq_true rfl)
  have ef : entryFrame m args 8 = entryFrame m ([.ref (ad 0), .int x1] : List Value).toArray 8 := by rw [eargs]
  rw [ef, lg_entry_eq]
  generalize (lg_sl ([.ref (ad 0), .int x1]) ++ List.replicate (8 - (lg_sl ([.ref (ad 0), .int x1])).length) Slot.unset).toArray = ls at hl ⊢
  have hl : lv_has ls 8 [(0, .ref (ad 0)), (1, .int x1)] := hl
  have hP : va_P (dC, dI) vwCl (xw 7 ad (mc ad ci r)) s.heap := hP
  unfold PX7_fastIn at h
  refine lv_aload_n hx hb dX7_fastIn_0 rfl (lv_at hl 0 rfl) ?_
  refine lv_iload_n hx hb dX7_fastIn_1 rfl (lv_at hl 1 rfl) ?_
  refine lv_iconst (v := (4 : Int32)) hx hb dX7_fastIn_2 (by decide) ?_
  refine va_calll (va_runV (As := [.int x1, .int (4 : Int32)]) (rest := []) ⟨hx, hb, C0.2.2.1, hown, hts⟩ (qX7_get l dC dI ad ci A hAD r x1 (4 : Int32) _ h) (cwV 2 hts gX7_fastIn_X7_get rfl rfl rfl (by decide +kernel) ⟨Nat.le_of_ble_eq_true rfl, Nat.le_of_ble_eq_true rfl⟩) ⟨xr_blind, xr_recv (r := (RX7, TX7, 9)) hK hP 0 (by decide) me_M rfl, xr_pre hP hK⟩ rfl rfl hl.1 rfl (lv_room (Nat.le_of_ble_eq_true rfl)) dX7_fastIn_3 ⟨Nat.le_of_ble_eq_true rfl, Nat.le_of_ble_eq_true rfl⟩) hS (fun _ _ h => h) (fun _ h => h) (fun r_1 _ t9 H locs ht hvm h hB _ _ hS => ?_)
  refine W.cs (cells' := 0) (slots' := 0) rfl rfl ?_
  have hP := x_th ht hB
  have hP : va_P (dC, dI) vwCl (xw 7 ad (mc ad ci r)) H := hP
  refine lv_aload_n hx hb dX7_fastIn_6 rfl (lv_at hl 0 rfl) ?_
  refine xr_get (D := (dC, dI)) (C := RX7) (T := TX7) (N := 9) (v := .ref (ad 1)) hx hb hts wX7_fastIn_c7 hown hK hP 0 (by decide) me_M rfl 0 (by decide) wX7_fastIn_f7 rfl rfl dX7_fastIn_7 ?_
  refine lv_sipush (v := (3700 : Int32)) hx hb dX7_fastIn_10 (by decide) ?_
  refine xr_lald (k := 3700) hx hb hK hP 1 1 (by decide) me_s rfl rfl (x_in _ _ (by decide)) dX7_fastIn_13 ?_
  refine xr_if_lcmp_le (tgt := 27) hx hb dX7_fastIn_14 dX7_fastIn_15 (by decide) (fun c_2 => ?_) (fun c_2 => ?_)
  · have h := h.1 c_2
    refine lv_aload_n hx hb dX7_fastIn_27 rfl (lv_at hl 0 rfl) ?_
    refine xr_get (D := (dC, dI)) (C := RX7) (T := TX7) (N := 9) (v := .ref (ad 1)) hx hb hts wX7_fastIn_c7 hown hK hP 0 (by decide) me_M rfl 0 (by decide) wX7_fastIn_f7 rfl rfl dX7_fastIn_28 ?_
    refine lv_sipush (v := (3700 : Int32)) hx hb dX7_fastIn_31 (by decide) ?_
    refine xr_lald (k := 3700) hx hb hK hP 1 1 (by decide) me_s rfl rfl (x_in _ _ (by decide)) dX7_fastIn_34 ?_
    refine lv_lconst (v := (1 : Int64)) hx hb dX7_fastIn_35 (by decide) ?_
    refine lv_ladd hx hb dX7_fastIn_36 ?_
    refine lv_topl (fun x2_3 ex2_3 => ?_)
    have h := h x2_3 ex2_3
    refine lv_lstore_n (lv' := [(2, .long x2_3), (0, .ref (ad 0)), (1, .int x1)]) hx hb dX7_fastIn_37 rfl hl (by decide) rfl (fun ls hl => ?_)
    refine lv_ldc2 (v := (-2000000005 : Int64)) hx hb hown (hts _ wX7_fastIn_k48) dX7_fastIn_38 ?_
    refine lv_lstore (lv' := [(4, .long (-2000000005 : Int64)), (2, .long x2_3), (0, .ref (ad 0)), (1, .int x1)]) hx hb dX7_fastIn_41 hl (by decide) rfl (fun ls hl => ?_)
    refine lv_iconst (v := (0 : Int32)) hx hb dX7_fastIn_43 (by decide) ?_
    refine lv_istore (lv' := [(6, .int (0 : Int32)), (4, .long (-2000000005 : Int64)), (2, .long x2_3), (0, .ref (ad 0)), (1, .int x1)]) hx hb dX7_fastIn_44 hl (by decide) rfl (fun ls hl => ?_)
    obtain ⟨n_26, h⟩ := h
    exact kX7_fastIn_46 l dC dI ad ci A hAD r   x1 x2_3  post C0  n_26 (-2000000005 : Int64) (0 : Int32) _ _ _ h hP hS (lv_sub hl [3, 4, 2, 1, 0] rfl)
  · have h := h.2 c_2
    refine lv_aload_n hx hb dX7_fastIn_18 rfl (lv_at hl 0 rfl) ?_
    refine lv_iload_n hx hb dX7_fastIn_19 rfl (lv_at hl 1 rfl) ?_
    refine lv_iconst (v := (4 : Int32)) hx hb dX7_fastIn_20 (by decide) ?_
    refine va_calll (va_runV (As := [.int x1, .int (4 : Int32)]) (rest := []) ⟨hx, hb, C0.2.2.1, hown, hts⟩ (qX7_get l dC dI ad ci A hAD r x1 (4 : Int32) _ h) (cwV 2 hts gX7_fastIn_X7_get rfl rfl rfl (by decide +kernel) ⟨Nat.le_of_ble_eq_true rfl, Nat.le_of_ble_eq_true rfl⟩) ⟨xr_blind, xr_recv (r := (RX7, TX7, 9)) hK hP 0 (by decide) me_M rfl, xr_pre hP hK⟩ rfl rfl hl.1 rfl (lv_room (Nat.le_of_ble_eq_true rfl)) dX7_fastIn_21 ⟨Nat.le_of_ble_eq_true rfl, Nat.le_of_ble_eq_true rfl⟩) hS (fun _ _ h => h) (fun _ h => h) (fun r_27 _ t9 H locs ht hvm h hB _ _ hS => ?_)
    refine W.cs (cells' := 0) (slots' := 0) rfl rfl ?_
    have hP := x_th ht hB
    have hP : va_P (dC, dI) vwCl (xw 7 ad (mc ad ci r)) H := hP
    refine lv_goto (tgt := 37) hx hb dX7_fastIn_24 (by decide) ?_
    refine lv_lstore_n (lv' := [(2, .long r_27), (0, .ref (ad 0)), (1, .int x1)]) hx hb dX7_fastIn_37 rfl hl (by decide) rfl (fun ls hl => ?_)
    refine lv_ldc2 (v := (-2000000005 : Int64)) hx hb hown (hts _ wX7_fastIn_k48) dX7_fastIn_38 ?_
    refine lv_lstore (lv' := [(4, .long (-2000000005 : Int64)), (2, .long r_27), (0, .ref (ad 0)), (1, .int x1)]) hx hb dX7_fastIn_41 hl (by decide) rfl (fun ls hl => ?_)
    refine lv_iconst (v := (0 : Int32)) hx hb dX7_fastIn_43 (by decide) ?_
    refine lv_istore (lv' := [(6, .int (0 : Int32)), (4, .long (-2000000005 : Int64)), (2, .long r_27), (0, .ref (ad 0)), (1, .int x1)]) hx hb dX7_fastIn_44 hl (by decide) rfl (fun ls hl => ?_)
    obtain ⟨n_28, h⟩ := h
    exact kX7_fastIn_46 l dC dI ad ci A hAD r   x1 r_27  post C0  n_28 (-2000000005 : Int64) (0 : Int32) _ _ _ h hP hS (lv_sub hl [3, 4, 2, 1, 0] rfl)
abbrev rmX7_settled : Room := { frames := 4, cells := 0, slots := 0, locals := 89 }
theorem wX7_settled_k99 : Cond.constantLong RX7 99 (2) ∈ wsX7_settled := by decide +kernel
theorem wX7_settled_c7 : ∀ w ∈ u_ws RX7 TX7 9, w ∈ wsX7_settled := by decide +kernel
theorem wX7_settled_f26 : Cond.fieldLink RX7 26 "DueWheelsModel" "isFast" "[Z" ∈ wsX7_settled := by decide +kernel
theorem wX7_settled_k48 : Cond.constantLong RX7 48 (-2000000005) ∈ wsX7_settled := by decide +kernel
theorem wX7_settled_f23 : Cond.fieldLink RX7 23 "DueWheelsModel" "ticks" "[J" ∈ wsX7_settled := by decide +kernel
theorem wX7_settled_f20 : Cond.fieldLink RX7 20 "DueWheelsModel" "loose" "[I" ∈ wsX7_settled := by decide +kernel
theorem wX7_settled_f159 : Cond.fieldLink RX7 159 "DueWheelsModel" "looseCount" "I" ∈ wsX7_settled := by decide +kernel
def LX7_settled_6    (K51 : MmV → Prop) (post : Int32 → MmV → Prop) : Nat → Int32 → MmV → Prop
  | 0, _, _ => False
  | n + 1, x1, r => (((200 : Int32) ≤ x1 → K51 r) ∧ (¬ (200 : Int32) ≤ x1 → (PX7_hasTick r x1 (fun (r_3 : Int32) => ((r_3 = 0 → (vp_in x1 200 ∧ (∀ r_6 : MmV, r_6 = m_wfs r (upd (m_fs r) (x1.toNatClampNeg) (vp_nar .boolean (0 : Int32))) → ∀ x1_7 : Int32, x1_7 = x1 + 1 → LX7_settled_6  K51 post n x1_7 r_6))) ∧ (¬ r_3 = 0 → (PX7_get r x1 (1 : Int32) (fun (r_8 : Int64) => ((r_8 = (2 : Int64) → (vp_in x1 200 ∧ (∀ r_11 : MmV, r_11 = m_wfs r (upd (m_fs r) (x1.toNatClampNeg) (vp_nar .boolean (0 : Int32))) → ∀ x1_12 : Int32, x1_12 = x1 + 1 → LX7_settled_6  K51 post n x1_12 r_11))) ∧ (¬ r_8 = (2 : Int64) → (vp_in x1 200 ∧ (∀ r_14 : MmV, r_14 = m_wfs r (upd (m_fs r) (x1.toNatClampNeg) (vp_nar .boolean (1 : Int32))) → ∀ x1_15 : Int32, x1_15 = x1 + 1 → LX7_settled_6  K51 post n x1_15 r_14))))))))))))
set_option maxHeartbeats 4000000 in
set_option maxRecDepth 100000 in
theorem kX7_settled_6 {p : Program} {e : Env} {s : State} {m : MethodId} {args : Array Value} {below : List Frame} {meth : Method} {c : Code} (l : Launch) (dC : Nat → ClassId) (dI : Nat → Nat → Nat) (ad : Nat → Nat) (ci : Nat → ClassId) (A : Nat → Prop) (hAD : xw_D 7 ad A)   (K51 : MmV → Prop) (post : Int32 → MmV → Prop) (C0 : xC p s m args meth c cX7_settled 6 (some .int) RX7 wsX7_settled (dC, dI) (xT ci)) (hK51 : ∀ (r : MmV) (H : Heap) (locs : List Loc) (ls : Array Slot), K51 r → va_P (dC, dI) vwCl (xw 7 ad (mc ad ci r)) H → va_S A s.heap H locs → lv_has ls 6 [(0, .ref (ad 0))] → W p l e rmX7_settled s m args below meth c H locs 0 0 (MQ below (va_Qi (fun r9 (u : MmV) => post r9 u) (fun u t => va_P (dC, dI) vwCl (xw 7 ad (mc ad ci u)) t.heap) A) args s 0 0 A) (F0 m 51 ls [])) : ∀ (n : Nat) (x1 : Int32) (r : MmV) (H : Heap) (locs : List Loc) (ls : Array Slot), LX7_settled_6  K51 post n x1 r → va_P (dC, dI) vwCl (xw 7 ad (mc ad ci r)) H → va_S A s.heap H locs → lv_has ls 6 [(0, .ref (ad 0)), (1, .int x1)] → W p l e rmX7_settled s m args below meth c H locs 0 0 (MQ below (va_Qi (fun r9 (u : MmV) => post r9 u) (fun u t => va_P (dC, dI) vwCl (xw 7 ad (mc ad ci u)) t.heap) A) args s 0 0 A) (F0 m 6 ls []) := by
  obtain ⟨hx, hb, -, hr, hlocks, hown, hts, hK⟩ := id C0
  intro n
  induction n with
  | zero =>
    intro x1 r H locs ls h
    exact False.elim h
  | succ n ih =>
    intro x1 r H locs ls h hP hS hl
    rw [LX7_settled_6] at h
    refine lv_iload_n hx hb dX7_settled_6 rfl (lv_at hl 1 rfl) ?_
    refine lv_sipush (v := (200 : Int32)) hx hb dX7_settled_7 (by decide) ?_
    refine lv_icmp_ge (tgt := 51) hx hb dX7_settled_10 (by decide) (fun c_2 => ?_) (fun c_2 => ?_)
    · have h := h.1 c_2
      exact hK51 r _ _ _ h hP hS (lv_sub hl [0] rfl)
    · have h := h.2 c_2
      refine lv_aload_n hx hb dX7_settled_13 rfl (lv_at hl 0 rfl) ?_
      refine xr_get (D := (dC, dI)) (C := RX7) (T := TX7) (N := 9) (v := .ref (ad 6)) hx hb hts wX7_settled_c7 hown hK hP 0 (by decide) me_M rfl 8 (by decide) wX7_settled_f26 rfl rfl dX7_settled_14 ?_
      refine lv_iload_n hx hb dX7_settled_17 rfl (lv_at hl 1 rfl) ?_
      refine lv_aload_n hx hb dX7_settled_18 rfl (lv_at hl 0 rfl) ?_
      refine lv_iload_n hx hb dX7_settled_19 rfl (lv_at hl 1 rfl) ?_
      refine va_calli (va_runV (As := [.int x1]) (rest := [.int x1, .ref (ad 6)]) ⟨hx, hb, C0.2.2.1, hown, hts⟩ (qX7_hasTick l dC dI ad ci A hAD r x1 _ h) (cwV 1 hts gX7_settled_X7_hasTick rfl rfl rfl (by decide +kernel) ⟨Nat.le_of_ble_eq_true rfl, Nat.le_of_ble_eq_true rfl⟩) ⟨xr_blind, xr_recv (r := (RX7, TX7, 9)) hK hP 0 (by decide) me_M rfl, xr_pre hP hK⟩ rfl rfl hl.1 rfl (lv_room (Nat.le_of_ble_eq_true rfl)) dX7_settled_20 ⟨Nat.le_of_ble_eq_true rfl, Nat.le_of_ble_eq_true rfl⟩) hS (fun _ _ h => h) (fun _ h => h) (fun r_3 _ t9 H locs ht hvm h hB _ _ hS => ?_)
      refine W.cs (cells' := 0) (slots' := 0) rfl rfl ?_
      have hP := x_th ht hB
      have hP : va_P (dC, dI) vwCl (xw 7 ad (mc ad ci r)) H := hP
      refine lv_if_eq (tgt := 43) hx hb dX7_settled_23 (by decide) (fun c_4 => ?_) (fun c_4 => ?_)
      · have h := h.1 c_4
        refine lv_iconst (v := (0 : Int32)) hx hb dX7_settled_43 (by decide) ?_
        obtain ⟨g_5, h⟩ := h
        obtain ⟨r_6, er_6⟩ : ∃ z : MmV, z = m_wfs r (upd (m_fs r) (x1.toNatClampNeg) (vp_nar .boolean (0 : Int32))) := ⟨_, rfl⟩
        have h := h r_6 er_6
        refine xr_zast (k := x1.toNatClampNeg) (x := (0 : Int32)) (g := (mc ad ci r_6)) hx hb hK hP hAD hS 6 2 (by decide) me_fs rfl rfl g_5 dX7_settled_44 (by rw [er_6]; exact mg_fs) (fun H locs hP hS => ?_)
        obtain ⟨x1_7, ex1_7⟩ : ∃ z : Int32, z = x1 + 1 := ⟨_, rfl⟩
        have h := h x1_7 ex1_7
        refine lv_iinc (v := x1_7) (lv' := [(1, .int x1_7), (0, .ref (ad 0))]) hx hb dX7_settled_45 hl (k := 1) rfl (by rw [ex1_7]; rfl) (by decide) rfl (fun ls hl => ?_)
        refine lv_goto (tgt := 6) hx hb dX7_settled_48 (by decide) ?_
        exact ih x1_7 r_6 _ _ _ h hP hS (lv_sub hl [1, 0] rfl)
      · have h := h.2 c_4
        refine lv_aload_n hx hb dX7_settled_26 rfl (lv_at hl 0 rfl) ?_
        refine lv_iload_n hx hb dX7_settled_27 rfl (lv_at hl 1 rfl) ?_
        refine lv_iconst (v := (1 : Int32)) hx hb dX7_settled_28 (by decide) ?_
        refine va_calll (va_runV (As := [.int x1, .int (1 : Int32)]) (rest := [.int x1, .ref (ad 6)]) ⟨hx, hb, C0.2.2.1, hown, hts⟩ (qX7_get l dC dI ad ci A hAD r x1 (1 : Int32) _ h) (cwV 2 hts gX7_settled_X7_get rfl rfl rfl (by decide +kernel) ⟨Nat.le_of_ble_eq_true rfl, Nat.le_of_ble_eq_true rfl⟩) ⟨xr_blind, xr_recv (r := (RX7, TX7, 9)) hK hP 0 (by decide) me_M rfl, xr_pre hP hK⟩ rfl rfl hl.1 rfl (lv_room (Nat.le_of_ble_eq_true rfl)) dX7_settled_29 ⟨Nat.le_of_ble_eq_true rfl, Nat.le_of_ble_eq_true rfl⟩) hS (fun _ _ h => h) (fun _ h => h) (fun r_8 _ t9 H locs ht hvm h hB _ _ hS => ?_)
        refine W.cs (cells' := 0) (slots' := 0) rfl rfl ?_
        have hP := x_th ht hB
        have hP : va_P (dC, dI) vwCl (xw 7 ad (mc ad ci r)) H := hP
        refine lv_ldc2 (v := (2 : Int64)) hx hb hown (hts _ wX7_settled_k99) dX7_settled_32 ?_
        refine xr_if_lcmp_eq (tgt := 43) hx hb dX7_settled_35 dX7_settled_36 (by decide) (fun c_9 => ?_) (fun c_9 => ?_)
        · have h := h.1 c_9
          refine lv_iconst (v := (0 : Int32)) hx hb dX7_settled_43 (by decide) ?_
          obtain ⟨g_10, h⟩ := h
          obtain ⟨r_11, er_11⟩ : ∃ z : MmV, z = m_wfs r (upd (m_fs r) (x1.toNatClampNeg) (vp_nar .boolean (0 : Int32))) := ⟨_, rfl⟩
          have h := h r_11 er_11
          refine xr_zast (k := x1.toNatClampNeg) (x := (0 : Int32)) (g := (mc ad ci r_11)) hx hb hK hP hAD hS 6 2 (by decide) me_fs rfl rfl g_10 dX7_settled_44 (by rw [er_11]; exact mg_fs) (fun H locs hP hS => ?_)
          obtain ⟨x1_12, ex1_12⟩ : ∃ z : Int32, z = x1 + 1 := ⟨_, rfl⟩
          have h := h x1_12 ex1_12
          refine lv_iinc (v := x1_12) (lv' := [(1, .int x1_12), (0, .ref (ad 0))]) hx hb dX7_settled_45 hl (k := 1) rfl (by rw [ex1_12]; rfl) (by decide) rfl (fun ls hl => ?_)
          refine lv_goto (tgt := 6) hx hb dX7_settled_48 (by decide) ?_
          exact ih x1_12 r_11 _ _ _ h hP hS (lv_sub hl [1, 0] rfl)
        · have h := h.2 c_9
          refine lv_iconst (v := (1 : Int32)) hx hb dX7_settled_39 (by decide) ?_
          refine lv_goto (tgt := 44) hx hb dX7_settled_40 (by decide) ?_
          obtain ⟨g_13, h⟩ := h
          obtain ⟨r_14, er_14⟩ : ∃ z : MmV, z = m_wfs r (upd (m_fs r) (x1.toNatClampNeg) (vp_nar .boolean (1 : Int32))) := ⟨_, rfl⟩
          have h := h r_14 er_14
          refine xr_zast (k := x1.toNatClampNeg) (x := (1 : Int32)) (g := (mc ad ci r_14)) hx hb hK hP hAD hS 6 2 (by decide) me_fs rfl rfl g_13 dX7_settled_44 (by rw [er_14]; exact mg_fs) (fun H locs hP hS => ?_)
          obtain ⟨x1_15, ex1_15⟩ : ∃ z : Int32, z = x1 + 1 := ⟨_, rfl⟩
          have h := h x1_15 ex1_15
          refine lv_iinc (v := x1_15) (lv' := [(1, .int x1_15), (0, .ref (ad 0))]) hx hb dX7_settled_45 hl (k := 1) rfl (by rw [ex1_15]; rfl) (by decide) rfl (fun ls hl => ?_)
          refine lv_goto (tgt := 6) hx hb dX7_settled_48 (by decide) ?_
          exact ih x1_15 r_14 _ _ _ h hP hS (lv_sub hl [1, 0] rfl)
def LX7_settled_55     (post : Int32 → MmV → Prop) : Nat → Int32 → Int32 → MmV → Prop
  | 0, _, _, _ => False
  | n + 1, x1, x2, r => (((m_lc r) ≤ x2 → post x1 r) ∧ (¬ (m_lc r) ≤ x2 → (vp_in x2 200 ∧ ∀ x3_19 : Int32, x3_19 = (m_lo r (x2.toNatClampNeg)) → (PX7_fastIn r x3_19 (fun (r_20 : Int64) => ((r_20 = (-2000000005 : Int64) → (vp_in x3_19 200 ∧ (∀ r_26 : MmV, r_26 = m_wfs r (upd (m_fs r) (x3_19.toNatClampNeg) (vp_nar .boolean (1 : Int32))) → ∀ x1_27 : Int32, x1_27 = x1 + 1 → ∀ x2_28 : Int32, x2_28 = x2 + 1 → LX7_settled_55  post n x1_27 x2_28 r_26))) ∧ (¬ r_20 = (-2000000005 : Int64) → (vp_in x3_19 200 ∧ (∀ r_23 : MmV, r_23 = m_wtk r (vp_updL (m_tk r) (x3_19.toNatClampNeg) r_20) → ∀ x2_24 : Int32, x2_24 = x2 + 1 → LX7_settled_55  post n x1 x2_24 r_23)))))))))
set_option maxHeartbeats 4000000 in
set_option maxRecDepth 100000 in
theorem kX7_settled_55 {p : Program} {e : Env} {s : State} {m : MethodId} {args : Array Value} {below : List Frame} {meth : Method} {c : Code} (l : Launch) (dC : Nat → ClassId) (dI : Nat → Nat → Nat) (ad : Nat → Nat) (ci : Nat → ClassId) (A : Nat → Prop) (hAD : xw_D 7 ad A)    (post : Int32 → MmV → Prop) (C0 : xC p s m args meth c cX7_settled 6 (some .int) RX7 wsX7_settled (dC, dI) (xT ci)) : ∀ (n : Nat) (x1 : Int32) (x2 : Int32) (r : MmV) (H : Heap) (locs : List Loc) (ls : Array Slot), LX7_settled_55  post n x1 x2 r → va_P (dC, dI) vwCl (xw 7 ad (mc ad ci r)) H → va_S A s.heap H locs → lv_has ls 6 [(0, .ref (ad 0)), (1, .int x1), (2, .int x2)] → W p l e rmX7_settled s m args below meth c H locs 0 0 (MQ below (va_Qi (fun r9 (u : MmV) => post r9 u) (fun u t => va_P (dC, dI) vwCl (xw 7 ad (mc ad ci u)) t.heap) A) args s 0 0 A) (F0 m 55 ls []) := by
  obtain ⟨hx, hb, -, hr, hlocks, hown, hts, hK⟩ := id C0
  intro n
  induction n with
  | zero =>
    intro x1 x2 r H locs ls h
    exact False.elim h
  | succ n ih =>
    intro x1 x2 r H locs ls h hP hS hl
    rw [LX7_settled_55] at h
    refine lv_iload_n hx hb dX7_settled_55 rfl (lv_at hl 2 rfl) ?_
    refine lv_aload_n hx hb dX7_settled_56 rfl (lv_at hl 0 rfl) ?_
    refine xr_get (D := (dC, dI)) (C := RX7) (T := TX7) (N := 9) (v := .int (m_lc r)) hx hb hts wX7_settled_c7 hown hK hP 0 (by decide) me_M rfl 7 (by decide) wX7_settled_f159 rfl rfl dX7_settled_57 ?_
    refine lv_icmp_ge (tgt := 113) hx hb dX7_settled_60 (by decide) (fun c_17 => ?_) (fun c_17 => ?_)
    · have h := h.1 c_17
      refine lv_iload_n hx hb dX7_settled_113 rfl (lv_at hl 1 rfl) ?_
      exact W.iret (v := x1) hx hb hr (fun t ht hW => ⟨⟨x1, r, rfl, h, x_ht ht hP⟩, hS.F ht⟩) hS.2.2 dX7_settled_114
    · have h := h.2 c_17
      refine lv_aload_n hx hb dX7_settled_63 rfl (lv_at hl 0 rfl) ?_
      refine xr_get (D := (dC, dI)) (C := RX7) (T := TX7) (N := 9) (v := .ref (ad 4)) hx hb hts wX7_settled_c7 hown hK hP 0 (by decide) me_M rfl 5 (by decide) wX7_settled_f20 rfl rfl dX7_settled_64 ?_
      refine lv_iload_n hx hb dX7_settled_67 rfl (lv_at hl 2 rfl) ?_
      obtain ⟨g_18, h⟩ := h
      refine xr_iald (k := x2.toNatClampNeg) hx hb hK hP 4 0 (by decide) me_lo rfl rfl g_18 dX7_settled_68 ?_
      refine lv_topi (fun x3_19 ex3_19 => ?_)
      have h := h x3_19 ex3_19
      refine lv_istore_n (lv' := [(3, .int x3_19), (0, .ref (ad 0)), (1, .int x1), (2, .int x2)]) hx hb dX7_settled_69 rfl hl (by decide) rfl (fun ls hl => ?_)
      refine lv_aload_n hx hb dX7_settled_70 rfl (lv_at hl 1 rfl) ?_
      refine lv_iload_n hx hb dX7_settled_71 rfl (lv_at hl 0 rfl) ?_
      refine va_calll (va_runV (As := [.int x3_19]) (rest := []) ⟨hx, hb, C0.2.2.1, hown, hts⟩ (qX7_fastIn l dC dI ad ci A hAD r x3_19 _ h) (cwV 1 hts gX7_settled_X7_fastIn rfl rfl rfl (by decide +kernel) ⟨Nat.le_of_ble_eq_true rfl, Nat.le_of_ble_eq_true rfl⟩) ⟨xr_blind, xr_recv (r := (RX7, TX7, 9)) hK hP 0 (by decide) me_M rfl, xr_pre hP hK⟩ rfl rfl hl.1 rfl (lv_room (Nat.le_of_ble_eq_true rfl)) dX7_settled_72 ⟨Nat.le_of_ble_eq_true rfl, Nat.le_of_ble_eq_true rfl⟩) hS (fun _ _ h => h) (fun _ h => h) (fun r_20 _ t9 H locs ht hvm h hB _ _ hS => ?_)
      refine W.cs (cells' := 0) (slots' := 0) rfl rfl ?_
      have hP := x_th ht hB
      have hP : va_P (dC, dI) vwCl (xw 7 ad (mc ad ci r)) H := hP
      refine lv_lstore (lv' := [(4, .long r_20), (3, .int x3_19), (0, .ref (ad 0)), (1, .int x1), (2, .int x2)]) hx hb dX7_settled_75 hl (by decide) rfl (fun ls hl => ?_)
      refine lv_lload hx hb dX7_settled_77 (lv_at hl 0 rfl) ?_
      refine lv_ldc2 (v := (-2000000005 : Int64)) hx hb hown (hts _ wX7_settled_k48) dX7_settled_79 ?_
      refine xr_if_lcmp_ne (tgt := 99) hx hb dX7_settled_82 dX7_settled_83 (by decide) (fun c_21 => ?_) (fun c_21 => ?_)
      · have h := h.2 c_21
        refine lv_aload_n hx hb dX7_settled_99 rfl (lv_at hl 2 rfl) ?_
        refine xr_get (D := (dC, dI)) (C := RX7) (T := TX7) (N := 9) (v := .ref (ad 5)) hx hb hts wX7_settled_c7 hown hK hP 0 (by decide) me_M rfl 6 (by decide) wX7_settled_f23 rfl rfl dX7_settled_100 ?_
        refine lv_iload_n hx hb dX7_settled_103 rfl (lv_at hl 1 rfl) ?_
        refine lv_lload hx hb dX7_settled_104 (lv_at hl 0 rfl) ?_
        obtain ⟨g_22, h⟩ := h
        obtain ⟨r_23, er_23⟩ : ∃ z : MmV, z = m_wtk r (vp_updL (m_tk r) (x3_19.toNatClampNeg) r_20) := ⟨_, rfl⟩
        have h := h r_23 er_23
        refine xr_last (k := x3_19.toNatClampNeg) (x := r_20) (g := (mc ad ci r_23)) hx hb hK hP hAD hS 5 1 (by decide) me_tk rfl rfl g_22 dX7_settled_106 (by rw [er_23]; exact mg_tk) (fun H locs hP hS => ?_)
        obtain ⟨x2_24, ex2_24⟩ : ∃ z : Int32, z = x2 + 1 := ⟨_, rfl⟩
        have h := h x2_24 ex2_24
        refine lv_iinc (v := x2_24) (lv' := [(2, .int x2_24), (4, .long r_20), (3, .int x3_19), (0, .ref (ad 0)), (1, .int x1)]) hx hb dX7_settled_107 hl (k := 4) rfl (by rw [ex2_24]; rfl) (by decide) rfl (fun ls hl => ?_)
        refine lv_goto (tgt := 55) hx hb dX7_settled_110 (by decide) ?_
        exact ih x1 x2_24 r_23 _ _ _ h hP hS (lv_sub hl [3, 4, 0] rfl)
      · have h := h.1 c_21
        refine lv_aload_n hx hb dX7_settled_86 rfl (lv_at hl 2 rfl) ?_
        refine xr_get (D := (dC, dI)) (C := RX7) (T := TX7) (N := 9) (v := .ref (ad 6)) hx hb hts wX7_settled_c7 hown hK hP 0 (by decide) me_M rfl 8 (by decide) wX7_settled_f26 rfl rfl dX7_settled_87 ?_
        refine lv_iload_n hx hb dX7_settled_90 rfl (lv_at hl 1 rfl) ?_
        refine lv_iconst (v := (1 : Int32)) hx hb dX7_settled_91 (by decide) ?_
        obtain ⟨g_25, h⟩ := h
        obtain ⟨r_26, er_26⟩ : ∃ z : MmV, z = m_wfs r (upd (m_fs r) (x3_19.toNatClampNeg) (vp_nar .boolean (1 : Int32))) := ⟨_, rfl⟩
        have h := h r_26 er_26
        refine xr_zast (k := x3_19.toNatClampNeg) (x := (1 : Int32)) (g := (mc ad ci r_26)) hx hb hK hP hAD hS 6 2 (by decide) me_fs rfl rfl g_25 dX7_settled_92 (by rw [er_26]; exact mg_fs) (fun H locs hP hS => ?_)
        obtain ⟨x1_27, ex1_27⟩ : ∃ z : Int32, z = x1 + 1 := ⟨_, rfl⟩
        have h := h x1_27 ex1_27
        refine lv_iinc (v := x1_27) (lv' := [(1, .int x1_27), (4, .long r_20), (3, .int x3_19), (0, .ref (ad 0)), (2, .int x2)]) hx hb dX7_settled_93 hl (k := 3) rfl (by rw [ex1_27]; rfl) (by decide) rfl (fun ls hl => ?_)
        refine lv_goto (tgt := 107) hx hb dX7_settled_96 (by decide) ?_
        obtain ⟨x2_28, ex2_28⟩ : ∃ z : Int32, z = x2 + 1 := ⟨_, rfl⟩
        have h := h x2_28 ex2_28
        refine lv_iinc (v := x2_28) (lv' := [(2, .int x2_28), (1, .int x1_27), (4, .long r_20), (3, .int x3_19), (0, .ref (ad 0))]) hx hb dX7_settled_107 hl (k := 4) rfl (by rw [ex2_28]; rfl) (by decide) rfl (fun ls hl => ?_)
        refine lv_goto (tgt := 55) hx hb dX7_settled_110 (by decide) ?_
        exact ih x1_27 x2_28 r_26 _ _ _ h hP hS (lv_sub hl [4, 1, 0] rfl)
def PX7_settled  (r : MmV)  (post : Int32 → MmV → Prop) : Prop :=
  (PX7_gather r (fun (r_1 : MmV) => (∃ n_30 : Nat, LX7_settled_6   (fun (r_16 : MmV) => (∃ n_29 : Nat, LX7_settled_55    post n_29 (0 : Int32) (0 : Int32) r_16)) post n_30 (0 : Int32) r_1)))
set_option maxHeartbeats 4000000 in
set_option maxRecDepth 100000 in
theorem qX7_settled (l : Launch) (dC : Nat → ClassId) (dI : Nat → Nat → Nat) (ad : Nat → Nat) (ci : Nat → ClassId) (A : Nat → Prop) (hAD : xw_D 7 ad A) (r : MmV)  (post : Int32 → MmV → Prop) (h : PX7_settled r post) : Met l yX7_settled wsX7_settled rmX7_settled (va_Pc [.ref (ad 0)] (fun U => va_P (dC, dI) vwCl (xw 7 ad (mc ad ci r)) U.heap ∧ va_K (dC, dI) vwCl (xT ci) U)) (va_Qi (fun r9 (u : MmV) => post r9 u) (fun u t => va_P (dC, dI) vwCl (xw 7 ad (mc ad ci u)) t.heap) A) 0 0 A := by
  refine Met.ofW (cc := cX7_settled) (maxL := 6) (ret := (some .int)) (by decide) rfl ?_
  intro p e s m args below meth c s₁ B hml hv
  obtain ⟨eargs, hP, hK⟩ := hv
  have C0 : xC p s m args meth c cX7_settled 6 (some .int) RX7 wsX7_settled (dC, dI) (xT ci) := ⟨B.exec, B.bytes, hml, B.returns, B.notSynchronized, findClass_of_methodNamed B.named, atoms_spec (ws := wsX7_settled) B.pre, hK⟩
  obtain ⟨hx, hb, -, hr, hlocks, hown, hts, -⟩ := id C0
  have hS : va_S A s.heap s.heap [] := va_S.rf
  have hl := lv_entry ([.ref (ad 0)]) (n := 6) (Nat.le_of_ble_eq_true rfl)
  have ef : entryFrame m args 6 = entryFrame m ([.ref (ad 0)] : List Value).toArray 6 := by rw [eargs]
  rw [ef, lg_entry_eq]
  generalize (lg_sl ([.ref (ad 0)]) ++ List.replicate (6 - (lg_sl ([.ref (ad 0)])).length) Slot.unset).toArray = ls at hl ⊢
  have hl : lv_has ls 6 [(0, .ref (ad 0))] := hl
  have hP : va_P (dC, dI) vwCl (xw 7 ad (mc ad ci r)) s.heap := hP
  unfold PX7_settled at h
  refine lv_aload_n hx hb dX7_settled_0 rfl (lv_at hl 0 rfl) ?_
  refine va_callv (va_runV (As := []) (rest := []) ⟨hx, hb, C0.2.2.1, hown, hts⟩ (qX7_gather l dC dI ad ci A hAD r  _ h) (cwV 0 hts gX7_settled_X7_gather rfl rfl rfl (by decide +kernel) ⟨Nat.le_of_ble_eq_true rfl, Nat.le_of_ble_eq_true rfl⟩) ⟨xr_blind, xr_recv (r := (RX7, TX7, 9)) hK hP 0 (by decide) me_M rfl, xr_pre hP hK⟩ rfl rfl hl.1 rfl (lv_room (Nat.le_of_ble_eq_true rfl)) dX7_settled_1 ⟨Nat.le_of_ble_eq_true rfl, Nat.le_of_ble_eq_true rfl⟩) hS (fun _ _ h => h) (fun _ h => h) (fun r_1 t9 H locs ht hvm h hB _ _ hS => ?_)
  refine W.cs (cells' := 0) (slots' := 0) rfl rfl ?_
  have hP := x_th ht hB
  have hP : va_P (dC, dI) vwCl (xw 7 ad (mc ad ci r_1)) H := hP
  refine lv_iconst (v := (0 : Int32)) hx hb dX7_settled_4 (by decide) ?_
  refine lv_istore_n (lv' := [(1, .int (0 : Int32)), (0, .ref (ad 0))]) hx hb dX7_settled_5 rfl hl (by decide) rfl (fun ls hl => ?_)
  obtain ⟨n_30, h⟩ := h
  refine kX7_settled_6 l dC dI ad ci A hAD     _ post C0 ?_ n_30 (0 : Int32) r_1 _ _ _ h hP hS (lv_sub hl [1, 0] rfl)
  · intro r_16 H locs ls h hP hS hl
    refine lv_iconst (v := (0 : Int32)) hx hb dX7_settled_51 (by decide) ?_
    refine lv_istore_n (lv' := [(1, .int (0 : Int32)), (0, .ref (ad 0))]) hx hb dX7_settled_52 rfl hl (by decide) rfl (fun ls hl => ?_)
    refine lv_iconst (v := (0 : Int32)) hx hb dX7_settled_53 (by decide) ?_
    refine lv_istore_n (lv' := [(2, .int (0 : Int32)), (1, .int (0 : Int32)), (0, .ref (ad 0))]) hx hb dX7_settled_54 rfl hl (by decide) rfl (fun ls hl => ?_)
    obtain ⟨n_29, h⟩ := h
    exact kX7_settled_55 l dC dI ad ci A hAD      post C0  n_29 (0 : Int32) (0 : Int32) r_16 _ _ _ h hP hS (lv_sub hl [2, 1, 0] rfl)
abbrev rmX7_fewest : Room := { frames := 5, cells := 0, slots := 0, locals := 114 }
def PX7_fewest  (r : MmV)  (post : Int64 → MmV → Prop) : Prop :=
  (PX7_settled r (fun (r_1 : Int32) (r_2 : MmV) => post (r_1.toInt64) r_2))
set_option maxHeartbeats 4000000 in
set_option maxRecDepth 100000 in
theorem qX7_fewest (l : Launch) (dC : Nat → ClassId) (dI : Nat → Nat → Nat) (ad : Nat → Nat) (ci : Nat → ClassId) (A : Nat → Prop) (hAD : xw_D 7 ad A) (r : MmV)  (post : Int64 → MmV → Prop) (h : PX7_fewest r post) : Met l yX7_fewest wsX7_fewest rmX7_fewest (va_Pc [.ref (ad 0)] (fun U => va_P (dC, dI) vwCl (xw 7 ad (mc ad ci r)) U.heap ∧ va_K (dC, dI) vwCl (xT ci) U)) (va_Ql (fun r9 (u : MmV) => post r9 u) (fun u t => va_P (dC, dI) vwCl (xw 7 ad (mc ad ci u)) t.heap) A) 0 0 A := by
  refine Met.ofW (cc := cX7_fewest) (maxL := 1) (ret := (some .long)) (by decide) rfl ?_
  intro p e s m args below meth c s₁ B hml hv
  obtain ⟨eargs, hP, hK⟩ := hv
  have C0 : xC p s m args meth c cX7_fewest 1 (some .long) RX7 wsX7_fewest (dC, dI) (xT ci) := ⟨B.exec, B.bytes, hml, B.returns, B.notSynchronized, findClass_of_methodNamed B.named, atoms_spec (ws := wsX7_fewest) B.pre, hK⟩
  obtain ⟨hx, hb, -, hr, hlocks, hown, hts, -⟩ := id C0
  have hS : va_S A s.heap s.heap [] := va_S.rf
  have hl := lv_entry ([.ref (ad 0)]) (n := 1) (Nat.le_of_ble_eq_true rfl)
  have ef : entryFrame m args 1 = entryFrame m ([.ref (ad 0)] : List Value).toArray 1 := by rw [eargs]
  rw [ef, lg_entry_eq]
  generalize (lg_sl ([.ref (ad 0)]) ++ List.replicate (1 - (lg_sl ([.ref (ad 0)])).length) Slot.unset).toArray = ls at hl ⊢
  have hl : lv_has ls 1 [(0, .ref (ad 0))] := hl
  have hP : va_P (dC, dI) vwCl (xw 7 ad (mc ad ci r)) s.heap := hP
  unfold PX7_fewest at h
  refine lv_aload_n hx hb dX7_fewest_0 rfl (lv_at hl 0 rfl) ?_
  refine va_calli (va_runV (As := []) (rest := []) ⟨hx, hb, C0.2.2.1, hown, hts⟩ (qX7_settled l dC dI ad ci A hAD r  _ h) (cwV 0 hts gX7_fewest_X7_settled rfl rfl rfl (by decide +kernel) ⟨Nat.le_of_ble_eq_true rfl, Nat.le_of_ble_eq_true rfl⟩) ⟨xr_blind, xr_recv (r := (RX7, TX7, 9)) hK hP 0 (by decide) me_M rfl, xr_pre hP hK⟩ rfl rfl hl.1 rfl (lv_room (Nat.le_of_ble_eq_true rfl)) dX7_fewest_1 ⟨Nat.le_of_ble_eq_true rfl, Nat.le_of_ble_eq_true rfl⟩) hS (fun _ _ h => h) (fun _ h => h) (fun r_1 r_2 t9 H locs ht hvm h hB _ _ hS => ?_)
  refine W.cs (cells' := 0) (slots' := 0) rfl rfl ?_
  have hP := x_th ht hB
  have hP : va_P (dC, dI) vwCl (xw 7 ad (mc ad ci r_2)) H := hP
  refine lv_i2l hx hb dX7_fewest_4 rfl ?_
  exact W.lret (v := (r_1.toInt64)) hx hb hr (fun t ht hW => ⟨⟨(r_1.toInt64), r_2, rfl, h, x_ht ht hP⟩, hS.F ht⟩) hS.2.2 dX7_fewest_5
abbrev rmX7_settle : Room := { frames := 5, cells := 0, slots := 0, locals := 114 }
theorem wX7_settle_c7 : ∀ w ∈ u_ws RX7 TX7 9, w ∈ wsX7_settle := by decide +kernel
theorem wX7_settle_f23 : Cond.fieldLink RX7 23 "DueWheelsModel" "ticks" "[J" ∈ wsX7_settle := by decide +kernel
theorem wX7_settle_f20 : Cond.fieldLink RX7 20 "DueWheelsModel" "loose" "[I" ∈ wsX7_settle := by decide +kernel
theorem wX7_settle_f159 : Cond.fieldLink RX7 159 "DueWheelsModel" "looseCount" "I" ∈ wsX7_settle := by decide +kernel
def LX7_settle_13     (post : Int64 → MmV → Prop) : Nat → Int32 → Int32 → MmV → Prop
  | 0, _, _, _ => False
  | n + 1, x2, x3, r => (((m_lc r) ≤ x3 → post (x2.toInt64) r) ∧ (¬ (m_lc r) ≤ x3 → (vp_in x3 200 ∧ ∀ x4_6 : Int32, x4_6 = (m_lo r (x3.toNatClampNeg)) → (vp_in x4_6 200 ∧ (PX7_get r x4_6 (3 : Int32) (fun (r_8 : Int64) => (((m_tk r (x4_6.toNatClampNeg)) = r_8 → ∀ x3_10 : Int32, x3_10 = x3 + 1 → LX7_settle_13  post n x2 x3_10 r) ∧ (¬ (m_tk r (x4_6.toNatClampNeg)) = r_8 → (vp_in x4_6 200 ∧ (PX7_tick r x4_6 (m_tk r (x4_6.toNatClampNeg)) (fun (r_12 : MmV) => ∀ x2_13 : Int32, x2_13 = x2 + 1 → ∀ x3_14 : Int32, x3_14 = x3 + 1 → LX7_settle_13  post n x2_13 x3_14 r_12)))))))))))
set_option maxHeartbeats 4000000 in
set_option maxRecDepth 100000 in
theorem kX7_settle_13 {p : Program} {e : Env} {s : State} {m : MethodId} {args : Array Value} {below : List Frame} {meth : Method} {c : Code} (l : Launch) (dC : Nat → ClassId) (dI : Nat → Nat → Nat) (ad : Nat → Nat) (ci : Nat → ClassId) (A : Nat → Prop) (hAD : xw_D 7 ad A)    (post : Int64 → MmV → Prop) (C0 : xC p s m args meth c cX7_settle 5 (some .long) RX7 wsX7_settle (dC, dI) (xT ci)) : ∀ (n : Nat) (x2 : Int32) (x3 : Int32) (r : MmV) (H : Heap) (locs : List Loc) (ls : Array Slot), LX7_settle_13  post n x2 x3 r → va_P (dC, dI) vwCl (xw 7 ad (mc ad ci r)) H → va_S A s.heap H locs → lv_has ls 5 [(0, .ref (ad 0)), (2, .int x2), (3, .int x3)] → W p l e rmX7_settle s m args below meth c H locs 0 0 (MQ below (va_Ql (fun r9 (u : MmV) => post r9 u) (fun u t => va_P (dC, dI) vwCl (xw 7 ad (mc ad ci u)) t.heap) A) args s 0 0 A) (F0 m 13 ls []) := by
  obtain ⟨hx, hb, -, hr, hlocks, hown, hts, hK⟩ := id C0
  intro n
  induction n with
  | zero =>
    intro x2 x3 r H locs ls h
    exact False.elim h
  | succ n ih =>
    intro x2 x3 r H locs ls h hP hS hl
    rw [LX7_settle_13] at h
    refine lv_iload_n hx hb dX7_settle_13 rfl (lv_at hl 2 rfl) ?_
    refine lv_aload_n hx hb dX7_settle_14 rfl (lv_at hl 0 rfl) ?_
    refine xr_get (D := (dC, dI)) (C := RX7) (T := TX7) (N := 9) (v := .int (m_lc r)) hx hb hts wX7_settle_c7 hown hK hP 0 (by decide) me_M rfl 7 (by decide) wX7_settle_f159 rfl rfl dX7_settle_15 ?_
    refine lv_icmp_ge (tgt := 69) hx hb dX7_settle_18 (by decide) (fun c_4 => ?_) (fun c_4 => ?_)
    · have h := h.1 c_4
      refine lv_iload_n hx hb dX7_settle_69 rfl (lv_at hl 1 rfl) ?_
      refine lv_i2l hx hb dX7_settle_70 rfl ?_
      exact W.lret (v := (x2.toInt64)) hx hb hr (fun t ht hW => ⟨⟨(x2.toInt64), r, rfl, h, x_ht ht hP⟩, hS.F ht⟩) hS.2.2 dX7_settle_71
    · have h := h.2 c_4
      refine lv_aload_n hx hb dX7_settle_21 rfl (lv_at hl 0 rfl) ?_
      refine xr_get (D := (dC, dI)) (C := RX7) (T := TX7) (N := 9) (v := .ref (ad 4)) hx hb hts wX7_settle_c7 hown hK hP 0 (by decide) me_M rfl 5 (by decide) wX7_settle_f20 rfl rfl dX7_settle_22 ?_
      refine lv_iload_n hx hb dX7_settle_25 rfl (lv_at hl 2 rfl) ?_
      obtain ⟨g_5, h⟩ := h
      refine xr_iald (k := x3.toNatClampNeg) hx hb hK hP 4 0 (by decide) me_lo rfl rfl g_5 dX7_settle_26 ?_
      refine lv_topi (fun x4_6 ex4_6 => ?_)
      have h := h x4_6 ex4_6
      refine lv_istore (lv' := [(4, .int x4_6), (0, .ref (ad 0)), (2, .int x2), (3, .int x3)]) hx hb dX7_settle_27 hl (by decide) rfl (fun ls hl => ?_)
      refine lv_aload_n hx hb dX7_settle_29 rfl (lv_at hl 1 rfl) ?_
      refine xr_get (D := (dC, dI)) (C := RX7) (T := TX7) (N := 9) (v := .ref (ad 5)) hx hb hts wX7_settle_c7 hown hK hP 0 (by decide) me_M rfl 6 (by decide) wX7_settle_f23 rfl rfl dX7_settle_30 ?_
      refine lv_iload hx hb dX7_settle_33 (lv_at hl 0 rfl) ?_
      obtain ⟨g_7, h⟩ := h
      refine xr_lald (k := x4_6.toNatClampNeg) hx hb hK hP 5 1 (by decide) me_tk rfl rfl g_7 dX7_settle_35 ?_
      refine lv_aload_n hx hb dX7_settle_36 rfl (lv_at hl 1 rfl) ?_
      refine lv_iload hx hb dX7_settle_37 (lv_at hl 0 rfl) ?_
      refine lv_iconst (v := (3 : Int32)) hx hb dX7_settle_39 (by decide) ?_
      refine va_calll (va_runV (As := [.int x4_6, .int (3 : Int32)]) (rest := [.long (m_tk r (x4_6.toNatClampNeg))]) ⟨hx, hb, C0.2.2.1, hown, hts⟩ (qX7_get l dC dI ad ci A hAD r x4_6 (3 : Int32) _ h) (cwV 2 hts gX7_settle_X7_get rfl rfl rfl (by decide +kernel) ⟨Nat.le_of_ble_eq_true rfl, Nat.le_of_ble_eq_true rfl⟩) ⟨xr_blind, xr_recv (r := (RX7, TX7, 9)) hK hP 0 (by decide) me_M rfl, xr_pre hP hK⟩ rfl rfl hl.1 rfl (lv_room (Nat.le_of_ble_eq_true rfl)) dX7_settle_40 ⟨Nat.le_of_ble_eq_true rfl, Nat.le_of_ble_eq_true rfl⟩) hS (fun _ _ h => h) (fun _ h => h) (fun r_8 _ t9 H locs ht hvm h hB _ _ hS => ?_)
      refine W.cs (cells' := 0) (slots' := 0) rfl rfl ?_
      have hP := x_th ht hB
      have hP : va_P (dC, dI) vwCl (xw 7 ad (mc ad ci r)) H := hP
      refine xr_if_lcmp_eq (tgt := 63) hx hb dX7_settle_43 dX7_settle_44 (by decide) (fun c_9 => ?_) (fun c_9 => ?_)
      · have h := h.1 c_9
        obtain ⟨x3_10, ex3_10⟩ : ∃ z : Int32, z = x3 + 1 := ⟨_, rfl⟩
        have h := h x3_10 ex3_10
        refine lv_iinc (v := x3_10) (lv' := [(3, .int x3_10), (4, .int x4_6), (0, .ref (ad 0)), (2, .int x2)]) hx hb dX7_settle_63 hl (k := 3) rfl (by rw [ex3_10]; rfl) (by decide) rfl (fun ls hl => ?_)
        refine lv_goto (tgt := 13) hx hb dX7_settle_66 (by decide) ?_
        exact ih x2 x3_10 r _ _ _ h hP hS (lv_sub hl [2, 3, 0] rfl)
      · have h := h.2 c_9
        refine lv_aload_n hx hb dX7_settle_47 rfl (lv_at hl 1 rfl) ?_
        refine lv_iload hx hb dX7_settle_48 (lv_at hl 0 rfl) ?_
        refine lv_aload_n hx hb dX7_settle_50 rfl (lv_at hl 1 rfl) ?_
        refine xr_get (D := (dC, dI)) (C := RX7) (T := TX7) (N := 9) (v := .ref (ad 5)) hx hb hts wX7_settle_c7 hown hK hP 0 (by decide) me_M rfl 6 (by decide) wX7_settle_f23 rfl rfl dX7_settle_51 ?_
        refine lv_iload hx hb dX7_settle_54 (lv_at hl 0 rfl) ?_
        obtain ⟨g_11, h⟩ := h
        refine xr_lald (k := x4_6.toNatClampNeg) hx hb hK hP 5 1 (by decide) me_tk rfl rfl g_11 dX7_settle_56 ?_
        refine va_callv (va_runV (As := [.int x4_6, .long (m_tk r (x4_6.toNatClampNeg))]) (rest := []) ⟨hx, hb, C0.2.2.1, hown, hts⟩ (qX7_tick l dC dI ad ci A hAD r x4_6 (m_tk r (x4_6.toNatClampNeg)) _ h) (cwV 2 hts gX7_settle_X7_tick rfl rfl rfl (by decide +kernel) ⟨Nat.le_of_ble_eq_true rfl, Nat.le_of_ble_eq_true rfl⟩) ⟨xr_blind, xr_recv (r := (RX7, TX7, 9)) hK hP 0 (by decide) me_M rfl, xr_pre hP hK⟩ rfl rfl hl.1 rfl (lv_room (Nat.le_of_ble_eq_true rfl)) dX7_settle_57 ⟨Nat.le_of_ble_eq_true rfl, Nat.le_of_ble_eq_true rfl⟩) hS (fun _ _ h => h) (fun _ h => h) (fun r_12 t9 H locs ht hvm h hB _ _ hS => ?_)
        refine W.cs (cells' := 0) (slots' := 0) rfl rfl ?_
        have hP := x_th ht hB
        have hP : va_P (dC, dI) vwCl (xw 7 ad (mc ad ci r_12)) H := hP
        obtain ⟨x2_13, ex2_13⟩ : ∃ z : Int32, z = x2 + 1 := ⟨_, rfl⟩
        have h := h x2_13 ex2_13
        refine lv_iinc (v := x2_13) (lv' := [(2, .int x2_13), (4, .int x4_6), (0, .ref (ad 0)), (3, .int x3)]) hx hb dX7_settle_60 hl (k := 2) rfl (by rw [ex2_13]; rfl) (by decide) rfl (fun ls hl => ?_)
        obtain ⟨x3_14, ex3_14⟩ : ∃ z : Int32, z = x3 + 1 := ⟨_, rfl⟩
        have h := h x3_14 ex3_14
        refine lv_iinc (v := x3_14) (lv' := [(3, .int x3_14), (2, .int x2_13), (4, .int x4_6), (0, .ref (ad 0))]) hx hb dX7_settle_63 hl (k := 3) rfl (by rw [ex3_14]; rfl) (by decide) rfl (fun ls hl => ?_)
        refine lv_goto (tgt := 13) hx hb dX7_settle_66 (by decide) ?_
        exact ih x2_13 x3_14 r_12 _ _ _ h hP hS (lv_sub hl [3, 1, 0] rfl)
def PX7_settle  (r : MmV)  (post : Int64 → MmV → Prop) : Prop :=
  (PX7_keep r (fun (r_1 : MmV) => (PX7_settled r_1 (fun (r_2 : Int32) (r_3 : MmV) => (∃ n_15 : Nat, LX7_settle_13    post n_15 (0 : Int32) (0 : Int32) r_3)))))
set_option maxHeartbeats 4000000 in
set_option maxRecDepth 100000 in
theorem qX7_settle (l : Launch) (dC : Nat → ClassId) (dI : Nat → Nat → Nat) (ad : Nat → Nat) (ci : Nat → ClassId) (A : Nat → Prop) (hAD : xw_D 7 ad A) (r : MmV)  (post : Int64 → MmV → Prop) (h : PX7_settle r post) : Met l yX7_settle wsX7_settle rmX7_settle (va_Pc [.ref (ad 0)] (fun U => va_P (dC, dI) vwCl (xw 7 ad (mc ad ci r)) U.heap ∧ va_K (dC, dI) vwCl (xT ci) U)) (va_Ql (fun r9 (u : MmV) => post r9 u) (fun u t => va_P (dC, dI) vwCl (xw 7 ad (mc ad ci u)) t.heap) A) 0 0 A := by
  refine Met.ofW (cc := cX7_settle) (maxL := 5) (ret := (some .long)) (by decide) rfl ?_
  intro p e s m args below meth c s₁ B hml hv
  obtain ⟨eargs, hP, hK⟩ := hv
  have C0 : xC p s m args meth c cX7_settle 5 (some .long) RX7 wsX7_settle (dC, dI) (xT ci) := ⟨B.exec, B.bytes, hml, B.returns, B.notSynchronized, findClass_of_methodNamed B.named, atoms_spec (ws := wsX7_settle) B.pre, hK⟩
  obtain ⟨hx, hb, -, hr, hlocks, hown, hts, -⟩ := id C0
  have hS : va_S A s.heap s.heap [] := va_S.rf
  have hl := lv_entry ([.ref (ad 0)]) (n := 5) (Nat.le_of_ble_eq_true rfl)
  have ef : entryFrame m args 5 = entryFrame m ([.ref (ad 0)] : List Value).toArray 5 := by rw [eargs]
  rw [ef, lg_entry_eq]
  generalize (lg_sl ([.ref (ad 0)]) ++ List.replicate (5 - (lg_sl ([.ref (ad 0)])).length) Slot.unset).toArray = ls at hl ⊢
  have hl : lv_has ls 5 [(0, .ref (ad 0))] := hl
  have hP : va_P (dC, dI) vwCl (xw 7 ad (mc ad ci r)) s.heap := hP
  unfold PX7_settle at h
  refine lv_aload_n hx hb dX7_settle_0 rfl (lv_at hl 0 rfl) ?_
  refine va_callv (va_runV (As := []) (rest := []) ⟨hx, hb, C0.2.2.1, hown, hts⟩ (qX7_keep l dC dI ad ci A hAD r  _ h) (cwV 0 hts gX7_settle_X7_keep rfl rfl rfl (by decide +kernel) ⟨Nat.le_of_ble_eq_true rfl, Nat.le_of_ble_eq_true rfl⟩) ⟨xr_blind, xr_recv (r := (RX7, TX7, 9)) hK hP 0 (by decide) me_M rfl, xr_pre hP hK⟩ rfl rfl hl.1 rfl (lv_room (Nat.le_of_ble_eq_true rfl)) dX7_settle_1 ⟨Nat.le_of_ble_eq_true rfl, Nat.le_of_ble_eq_true rfl⟩) hS (fun _ _ h => h) (fun _ h => h) (fun r_1 t9 H locs ht hvm h hB _ _ hS => ?_)
  refine W.cs (cells' := 0) (slots' := 0) rfl rfl ?_
  have hP := x_th ht hB
  have hP : va_P (dC, dI) vwCl (xw 7 ad (mc ad ci r_1)) H := hP
  refine lv_aload_n hx hb dX7_settle_4 rfl (lv_at hl 0 rfl) ?_
  refine va_calli (va_runV (As := []) (rest := []) ⟨hx, hb, C0.2.2.1, hown, hts⟩ (qX7_settled l dC dI ad ci A hAD r_1  _ h) (cwV 0 hts gX7_settle_X7_settled rfl rfl rfl (by decide +kernel) ⟨Nat.le_of_ble_eq_true rfl, Nat.le_of_ble_eq_true rfl⟩) ⟨xr_blind, xr_recv (r := (RX7, TX7, 9)) hK hP 0 (by decide) me_M rfl, xr_pre hP hK⟩ rfl rfl hl.1 rfl (lv_room (Nat.le_of_ble_eq_true rfl)) dX7_settle_5 ⟨Nat.le_of_ble_eq_true rfl, Nat.le_of_ble_eq_true rfl⟩) hS (fun _ _ h => h) (fun _ h => h) (fun r_2 r_3 t9 H locs ht hvm h hB _ _ hS => ?_)
  refine W.cs (cells' := 0) (slots' := 0) rfl rfl ?_
  have hP := x_th ht hB
  have hP : va_P (dC, dI) vwCl (xw 7 ad (mc ad ci r_3)) H := hP
  refine lv_istore_n (lv' := [(1, .int r_2), (0, .ref (ad 0))]) hx hb dX7_settle_8 rfl hl (by decide) rfl (fun ls hl => ?_)
  refine lv_iconst (v := (0 : Int32)) hx hb dX7_settle_9 (by decide) ?_
  refine lv_istore_n (lv' := [(2, .int (0 : Int32)), (1, .int r_2), (0, .ref (ad 0))]) hx hb dX7_settle_10 rfl hl (by decide) rfl (fun ls hl => ?_)
  refine lv_iconst (v := (0 : Int32)) hx hb dX7_settle_11 (by decide) ?_
  refine lv_istore_n (lv' := [(3, .int (0 : Int32)), (2, .int (0 : Int32)), (1, .int r_2), (0, .ref (ad 0))]) hx hb dX7_settle_12 rfl hl (by decide) rfl (fun ls hl => ?_)
  obtain ⟨n_15, h⟩ := h
  exact kX7_settle_13 l dC dI ad ci A hAD      post C0  n_15 (0 : Int32) (0 : Int32) r_3 _ _ _ h hP hS (lv_sub hl [3, 1, 0] rfl)
abbrev rmX7_lies : Room := { frames := 3, cells := 0, slots := 0, locals := 67 }
theorem wX7_lies_k73 : Cond.constantLong RX7 73 (-2000000001) ∈ wsX7_lies := by decide +kernel
theorem wX7_lies_k99 : Cond.constantLong RX7 99 (2) ∈ wsX7_lies := by decide +kernel
theorem wX7_lies_k48 : Cond.constantLong RX7 48 (-2000000005) ∈ wsX7_lies := by decide +kernel
def PX7_lies  (r : MmV) (x1 : Int32) (x2 : Int32) (post : Int64 → Prop) : Prop :=
  (PX7_isDue r x1 (fun (r_1 : Int32) => ((r_1 = 0 → post (-2000000001 : Int64)) ∧ (¬ r_1 = 0 → (PX7_isIn (x2.toInt64) (0 : Int64) (2 : Int64) (fun (r_3 : Int32) => ((r_3 = 0 → post (-2000000001 : Int64)) ∧ (¬ r_3 = 0 → (PX7_hasTick r x1 (fun (r_5 : Int32) => ((r_5 = 0 → ((x2 = (2 : Int32) → post (0 : Int64)) ∧ (¬ x2 = (2 : Int32) → post (-2000000005 : Int64)))) ∧ (¬ r_5 = 0 → (PX7_get r x1 (3 : Int32) (fun (r_7 : Int64) => (PX7_wheelOf r r_7 (fun (r_8 : Int32) => ((x2 = 0 → post (r_8.toInt64)) ∧ (¬ x2 = 0 → ((x2 = (1 : Int32) → (PX7_get r x1 (3 : Int32) (fun (r_12 : Int64) => (PX7_slotOf r_12 r_8 (fun (r_13 : Int32) => post (r_13.toInt64)))))) ∧ (¬ x2 = (1 : Int32) → (PX7_get r x1 (12 : Int32) (fun (r_11 : Int64) => post r_11))))))))))))))))))))))
set_option maxHeartbeats 4000000 in
set_option maxRecDepth 100000 in
theorem qX7_lies (l : Launch) (dC : Nat → ClassId) (dI : Nat → Nat → Nat) (ad : Nat → Nat) (ci : Nat → ClassId) (A : Nat → Prop) (hAD : xw_D 7 ad A) (r : MmV) (x1 : Int32) (x2 : Int32) (post : Int64 → Prop) (h : PX7_lies r x1 x2 post) : Met l yX7_lies wsX7_lies rmX7_lies (va_Pc [.ref (ad 0), .int x1, .int x2] (fun U => va_P (dC, dI) vwCl (xw 7 ad (mc ad ci r)) U.heap ∧ va_K (dC, dI) vwCl (xT ci) U)) (va_Ql (fun r9 (u : Unit) => post r9 ) (fun u t => va_P (dC, dI) vwCl (xw 7 ad (mc ad ci r)) t.heap) A) 0 0 A := by
  refine Met.ofW (cc := cX7_lies) (maxL := 4) (ret := (some .long)) (by decide) rfl ?_
  intro p e s m args below meth c s₁ B hml hv
  obtain ⟨eargs, hP, hK⟩ := hv
  have C0 : xC p s m args meth c cX7_lies 4 (some .long) RX7 wsX7_lies (dC, dI) (xT ci) := ⟨B.exec, B.bytes, hml, B.returns, B.notSynchronized, findClass_of_methodNamed B.named, atoms_spec (ws := wsX7_lies) B.pre, hK⟩
  obtain ⟨hx, hb, -, hr, hlocks, hown, hts, -⟩ := id C0
  have hS : va_S A s.heap s.heap [] := va_S.rf
  have hl := lv_entry ([.ref (ad 0), .int x1, .int x2]) (n := 4) (Nat.le_of_ble_eq_true rfl)
  have ef : entryFrame m args 4 = entryFrame m ([.ref (ad 0), .int x1, .int x2] : List Value).toArray 4 := by rw [eargs]
  rw [ef, lg_entry_eq]
  generalize (lg_sl ([.ref (ad 0), .int x1, .int x2]) ++ List.replicate (4 - (lg_sl ([.ref (ad 0), .int x1, .int x2])).length) Slot.unset).toArray = ls at hl ⊢
  have hl : lv_has ls 4 [(0, .ref (ad 0)), (1, .int x1), (2, .int x2)] := hl
  have hP : va_P (dC, dI) vwCl (xw 7 ad (mc ad ci r)) s.heap := hP
  unfold PX7_lies at h
  refine lv_aload_n hx hb dX7_lies_0 rfl (lv_at hl 0 rfl) ?_
  refine lv_iload_n hx hb dX7_lies_1 rfl (lv_at hl 1 rfl) ?_
  refine va_calli (va_runV (As := [.int x1]) (rest := []) ⟨hx, hb, C0.2.2.1, hown, hts⟩ (qX7_isDue l dC dI ad ci A hAD r x1 _ h) (cwV 1 hts gX7_lies_X7_isDue rfl rfl rfl (by decide +kernel) ⟨Nat.le_of_ble_eq_true rfl, Nat.le_of_ble_eq_true rfl⟩) ⟨xr_blind, xr_recv (r := (RX7, TX7, 9)) hK hP 0 (by decide) me_M rfl, xr_pre hP hK⟩ rfl rfl hl.1 rfl (lv_room (Nat.le_of_ble_eq_true rfl)) dX7_lies_2 ⟨Nat.le_of_ble_eq_true rfl, Nat.le_of_ble_eq_true rfl⟩) hS (fun _ _ h => h) (fun _ h => h) (fun r_1 _ t9 H locs ht hvm h hB _ _ hS => ?_)
  refine W.cs (cells' := 0) (slots' := 0) rfl rfl ?_
  have hP := x_th ht hB
  have hP : va_P (dC, dI) vwCl (xw 7 ad (mc ad ci r)) H := hP
  refine lv_if_eq (tgt := 20) hx hb dX7_lies_5 (by decide) (fun c_2 => ?_) (fun c_2 => ?_)
  · have h := h.1 c_2
    refine lv_ldc2 (v := (-2000000001 : Int64)) hx hb hown (hts _ wX7_lies_k73) dX7_lies_20 ?_
    exact W.lret (v := (-2000000001 : Int64)) hx hb hr (fun t ht hW => ⟨⟨(-2000000001 : Int64), (), rfl, h, x_ht ht hP⟩, hS.F ht⟩) hS.2.2 dX7_lies_23
  · have h := h.2 c_2
    refine lv_iload_n hx hb dX7_lies_8 rfl (lv_at hl 2 rfl) ?_
    refine lv_i2l hx hb dX7_lies_9 rfl ?_
    refine lv_lconst (v := (0 : Int64)) hx hb dX7_lies_10 (by decide) ?_
    refine lv_ldc2 (v := (2 : Int64)) hx hb hown (hts _ wX7_lies_k99) dX7_lies_11 ?_
    refine va_calli (va_runS (As := [.long (x2.toInt64), .long (0 : Int64), .long (2 : Int64)]) (rest := []) ⟨hx, hb, C0.2.2.1, hown, hts⟩ (qX7_isIn l dC dI 7 ad (mc ad ci r) (xT ci) A (x2.toInt64) (0 : Int64) (2 : Int64) _ h) (va_cwS 3 hts gX7_lies_X7_isIn rfl rfl rfl (by decide +kernel) ⟨Nat.le_of_ble_eq_true rfl, Nat.le_of_ble_eq_true rfl⟩) ⟨xr_blind, xr_pre hP hK⟩ rfl rfl hl.1 rfl (lv_room (Nat.le_of_ble_eq_true rfl)) dX7_lies_14 ⟨Nat.le_of_ble_eq_true rfl, Nat.le_of_ble_eq_true rfl⟩) hS (fun _ _ h => h) (fun _ h => h) (fun r_3 _ t9 H locs ht hvm h hB _ _ hS => ?_)
    refine W.cs (cells' := 0) (slots' := 0) rfl rfl ?_
    have hP := x_th ht hB
    have hP : va_P (dC, dI) vwCl (xw 7 ad (mc ad ci r)) H := hP
    refine lv_if_ne (tgt := 24) hx hb dX7_lies_17 (by decide) (fun c_4 => ?_) (fun c_4 => ?_)
    · have h := h.2 c_4
      refine lv_aload_n hx hb dX7_lies_24 rfl (lv_at hl 0 rfl) ?_
      refine lv_iload_n hx hb dX7_lies_25 rfl (lv_at hl 1 rfl) ?_
      refine va_calli (va_runV (As := [.int x1]) (rest := []) ⟨hx, hb, C0.2.2.1, hown, hts⟩ (qX7_hasTick l dC dI ad ci A hAD r x1 _ h) (cwV 1 hts gX7_lies_X7_hasTick rfl rfl rfl (by decide +kernel) ⟨Nat.le_of_ble_eq_true rfl, Nat.le_of_ble_eq_true rfl⟩) ⟨xr_blind, xr_recv (r := (RX7, TX7, 9)) hK hP 0 (by decide) me_M rfl, xr_pre hP hK⟩ rfl rfl hl.1 rfl (lv_room (Nat.le_of_ble_eq_true rfl)) dX7_lies_26 ⟨Nat.le_of_ble_eq_true rfl, Nat.le_of_ble_eq_true rfl⟩) hS (fun _ _ h => h) (fun _ h => h) (fun r_5 _ t9 H locs ht hvm h hB _ _ hS => ?_)
      refine W.cs (cells' := 0) (slots' := 0) rfl rfl ?_
      have hP := x_th ht hB
      have hP : va_P (dC, dI) vwCl (xw 7 ad (mc ad ci r)) H := hP
      refine lv_if_ne (tgt := 45) hx hb dX7_lies_29 (by decide) (fun c_6 => ?_) (fun c_6 => ?_)
      · have h := h.2 c_6
        refine lv_aload_n hx hb dX7_lies_45 rfl (lv_at hl 0 rfl) ?_
        refine lv_aload_n hx hb dX7_lies_46 rfl (lv_at hl 0 rfl) ?_
        refine lv_iload_n hx hb dX7_lies_47 rfl (lv_at hl 1 rfl) ?_
        refine lv_iconst (v := (3 : Int32)) hx hb dX7_lies_48 (by decide) ?_
        refine va_calll (va_runV (As := [.int x1, .int (3 : Int32)]) (rest := [.ref (ad 0)]) ⟨hx, hb, C0.2.2.1, hown, hts⟩ (qX7_get l dC dI ad ci A hAD r x1 (3 : Int32) _ h) (cwV 2 hts gX7_lies_X7_get rfl rfl rfl (by decide +kernel) ⟨Nat.le_of_ble_eq_true rfl, Nat.le_of_ble_eq_true rfl⟩) ⟨xr_blind, xr_recv (r := (RX7, TX7, 9)) hK hP 0 (by decide) me_M rfl, xr_pre hP hK⟩ rfl rfl hl.1 rfl (lv_room (Nat.le_of_ble_eq_true rfl)) dX7_lies_49 ⟨Nat.le_of_ble_eq_true rfl, Nat.le_of_ble_eq_true rfl⟩) hS (fun _ _ h => h) (fun _ h => h) (fun r_7 _ t9 H locs ht hvm h hB _ _ hS => ?_)
        refine W.cs (cells' := 0) (slots' := 0) rfl rfl ?_
        have hP := x_th ht hB
        have hP : va_P (dC, dI) vwCl (xw 7 ad (mc ad ci r)) H := hP
        refine va_calli (va_runV (As := [.long r_7]) (rest := []) ⟨hx, hb, C0.2.2.1, hown, hts⟩ (qX7_wheelOf l dC dI ad ci A hAD r r_7 _ h) (cwV 1 hts gX7_lies_X7_wheelOf rfl rfl rfl (by decide +kernel) ⟨Nat.le_of_ble_eq_true rfl, Nat.le_of_ble_eq_true rfl⟩) ⟨xr_blind, xr_recv (r := (RX7, TX7, 9)) hK hP 0 (by decide) me_M rfl, xr_pre hP hK⟩ rfl rfl hl.1 rfl (lv_room (Nat.le_of_ble_eq_true rfl)) dX7_lies_52 ⟨Nat.le_of_ble_eq_true rfl, Nat.le_of_ble_eq_true rfl⟩) hS (fun _ _ h => h) (fun _ h => h) (fun r_8 _ t9 H locs ht hvm h hB _ _ hS => ?_)
        refine W.cs (cells' := 0) (slots' := 0) rfl rfl ?_
        have hP := x_th ht hB
        have hP : va_P (dC, dI) vwCl (xw 7 ad (mc ad ci r)) H := hP
        refine lv_istore_n (lv' := [(3, .int r_8), (0, .ref (ad 0)), (1, .int x1), (2, .int x2)]) hx hb dX7_lies_55 rfl hl (by decide) rfl (fun ls hl => ?_)
        refine lv_iload_n hx hb dX7_lies_56 rfl (lv_at hl 3 rfl) ?_
        refine lv_if_ne (tgt := 65) hx hb dX7_lies_57 (by decide) (fun c_9 => ?_) (fun c_9 => ?_)
        · have h := h.2 c_9
          refine lv_iload_n hx hb dX7_lies_65 rfl (lv_at hl 3 rfl) ?_
          refine lv_iconst (v := (1 : Int32)) hx hb dX7_lies_66 (by decide) ?_
          refine lv_icmp_ne (tgt := 84) hx hb dX7_lies_67 (by decide) (fun c_10 => ?_) (fun c_10 => ?_)
          · have h := h.2 c_10
            refine lv_aload_n hx hb dX7_lies_84 rfl (lv_at hl 1 rfl) ?_
            refine lv_iload_n hx hb dX7_lies_85 rfl (lv_at hl 2 rfl) ?_
            refine lv_bipush (v := (12 : Int32)) hx hb dX7_lies_86 (by decide) ?_
            refine va_calll (va_runV (As := [.int x1, .int (12 : Int32)]) (rest := []) ⟨hx, hb, C0.2.2.1, hown, hts⟩ (qX7_get l dC dI ad ci A hAD r x1 (12 : Int32) _ h) (cwV 2 hts gX7_lies_X7_get rfl rfl rfl (by decide +kernel) ⟨Nat.le_of_ble_eq_true rfl, Nat.le_of_ble_eq_true rfl⟩) ⟨xr_blind, xr_recv (r := (RX7, TX7, 9)) hK hP 0 (by decide) me_M rfl, xr_pre hP hK⟩ rfl rfl hl.1 rfl (lv_room (Nat.le_of_ble_eq_true rfl)) dX7_lies_88 ⟨Nat.le_of_ble_eq_true rfl, Nat.le_of_ble_eq_true rfl⟩) hS (fun _ _ h => h) (fun _ h => h) (fun r_11 _ t9 H locs ht hvm h hB _ _ hS => ?_)
            refine W.cs (cells' := 0) (slots' := 0) rfl rfl ?_
            have hP := x_th ht hB
            have hP : va_P (dC, dI) vwCl (xw 7 ad (mc ad ci r)) H := hP
            exact W.lret (v := r_11) hx hb hr (fun t ht hW => ⟨⟨r_11, (), rfl, h, x_ht ht hP⟩, hS.F ht⟩) hS.2.2 dX7_lies_91
          · have h := h.1 c_10
            refine lv_aload_n hx hb dX7_lies_70 rfl (lv_at hl 1 rfl) ?_
            refine lv_iload_n hx hb dX7_lies_71 rfl (lv_at hl 2 rfl) ?_
            refine lv_iconst (v := (3 : Int32)) hx hb dX7_lies_72 (by decide) ?_
            refine va_calll (va_runV (As := [.int x1, .int (3 : Int32)]) (rest := []) ⟨hx, hb, C0.2.2.1, hown, hts⟩ (qX7_get l dC dI ad ci A hAD r x1 (3 : Int32) _ h) (cwV 2 hts gX7_lies_X7_get rfl rfl rfl (by decide +kernel) ⟨Nat.le_of_ble_eq_true rfl, Nat.le_of_ble_eq_true rfl⟩) ⟨xr_blind, xr_recv (r := (RX7, TX7, 9)) hK hP 0 (by decide) me_M rfl, xr_pre hP hK⟩ rfl rfl hl.1 rfl (lv_room (Nat.le_of_ble_eq_true rfl)) dX7_lies_73 ⟨Nat.le_of_ble_eq_true rfl, Nat.le_of_ble_eq_true rfl⟩) hS (fun _ _ h => h) (fun _ h => h) (fun r_12 _ t9 H locs ht hvm h hB _ _ hS => ?_)
            refine W.cs (cells' := 0) (slots' := 0) rfl rfl ?_
            have hP := x_th ht hB
            have hP : va_P (dC, dI) vwCl (xw 7 ad (mc ad ci r)) H := hP
            refine lv_iload_n hx hb dX7_lies_76 rfl (lv_at hl 0 rfl) ?_
            refine va_calli (va_runS (As := [.long r_12, .int r_8]) (rest := []) ⟨hx, hb, C0.2.2.1, hown, hts⟩ (qX7_slotOf l dC dI 7 ad (mc ad ci r) (xT ci) A r_12 r_8 _ h) (va_cwS 2 hts gX7_lies_X7_slotOf rfl rfl rfl (by decide +kernel) ⟨Nat.le_of_ble_eq_true rfl, Nat.le_of_ble_eq_true rfl⟩) ⟨xr_blind, xr_pre hP hK⟩ rfl rfl hl.1 rfl (lv_room (Nat.le_of_ble_eq_true rfl)) dX7_lies_77 ⟨Nat.le_of_ble_eq_true rfl, Nat.le_of_ble_eq_true rfl⟩) hS (fun _ _ h => h) (fun _ h => h) (fun r_13 _ t9 H locs ht hvm h hB _ _ hS => ?_)
            refine W.cs (cells' := 0) (slots' := 0) rfl rfl ?_
            have hP := x_th ht hB
            have hP : va_P (dC, dI) vwCl (xw 7 ad (mc ad ci r)) H := hP
            refine lv_i2l hx hb dX7_lies_80 rfl ?_
            refine lv_goto (tgt := 91) hx hb dX7_lies_81 (by decide) ?_
            exact W.lret (v := (r_13.toInt64)) hx hb hr (fun t ht hW => ⟨⟨(r_13.toInt64), (), rfl, h, x_ht ht hP⟩, hS.F ht⟩) hS.2.2 dX7_lies_91
        · have h := h.1 c_9
          refine lv_iload_n hx hb dX7_lies_60 rfl (lv_at hl 0 rfl) ?_
          refine lv_i2l hx hb dX7_lies_61 rfl ?_
          refine lv_goto (tgt := 91) hx hb dX7_lies_62 (by decide) ?_
          exact W.lret (v := (r_8.toInt64)) hx hb hr (fun t ht hW => ⟨⟨(r_8.toInt64), (), rfl, h, x_ht ht hP⟩, hS.F ht⟩) hS.2.2 dX7_lies_91
      · have h := h.1 c_6
        refine lv_iload_n hx hb dX7_lies_32 rfl (lv_at hl 2 rfl) ?_
        refine lv_iconst (v := (2 : Int32)) hx hb dX7_lies_33 (by decide) ?_
        refine lv_icmp_ne (tgt := 41) hx hb dX7_lies_34 (by decide) (fun c_14 => ?_) (fun c_14 => ?_)
        · have h := h.2 c_14
          refine lv_ldc2 (v := (-2000000005 : Int64)) hx hb hown (hts _ wX7_lies_k48) dX7_lies_41 ?_
          exact W.lret (v := (-2000000005 : Int64)) hx hb hr (fun t ht hW => ⟨⟨(-2000000005 : Int64), (), rfl, h, x_ht ht hP⟩, hS.F ht⟩) hS.2.2 dX7_lies_44
        · have h := h.1 c_14
          refine lv_lconst (v := (0 : Int64)) hx hb dX7_lies_37 (by decide) ?_
          refine lv_goto (tgt := 44) hx hb dX7_lies_38 (by decide) ?_
          exact W.lret (v := (0 : Int64)) hx hb hr (fun t ht hW => ⟨⟨(0 : Int64), (), rfl, h, x_ht ht hP⟩, hS.F ht⟩) hS.2.2 dX7_lies_44
    · have h := h.1 c_4
      refine lv_ldc2 (v := (-2000000001 : Int64)) hx hb hown (hts _ wX7_lies_k73) dX7_lies_20 ?_
      exact W.lret (v := (-2000000001 : Int64)) hx hb hr (fun t ht hW => ⟨⟨(-2000000001 : Int64), (), rfl, h, x_ht ht hP⟩, hS.F ht⟩) hS.2.2 dX7_lies_23
abbrev rmX7_liesIn : Room := { frames := 3, cells := 0, slots := 0, locals := 67 }
def PX7_liesIn  (r : MmV) (x1 : Int32) (x2 : Int32) (x3 : Int32) (post : Int32 → Prop) : Prop :=
  (PX7_hasTick r x1 (fun (r_1 : Int32) => ((r_1 = 0 → post (0 : Int32)) ∧ (¬ r_1 = 0 → (PX7_get r x1 (3 : Int32) (fun (r_3 : Int64) => (PX7_wheelOf r r_3 (fun (r_4 : Int32) => ((r_4 = x2 → (PX7_get r x1 (3 : Int32) (fun (r_6 : Int64) => (PX7_slotOf r_6 x2 (fun (r_7 : Int32) => ((r_7 = x3 → post (1 : Int32)) ∧ (¬ r_7 = x3 → post (0 : Int32)))))))) ∧ (¬ r_4 = x2 → post (0 : Int32)))))))))))
set_option maxHeartbeats 4000000 in
set_option maxRecDepth 100000 in
theorem qX7_liesIn (l : Launch) (dC : Nat → ClassId) (dI : Nat → Nat → Nat) (ad : Nat → Nat) (ci : Nat → ClassId) (A : Nat → Prop) (hAD : xw_D 7 ad A) (r : MmV) (x1 : Int32) (x2 : Int32) (x3 : Int32) (post : Int32 → Prop) (h : PX7_liesIn r x1 x2 x3 post) : Met l yX7_liesIn wsX7_liesIn rmX7_liesIn (va_Pc [.ref (ad 0), .int x1, .int x2, .int x3] (fun U => va_P (dC, dI) vwCl (xw 7 ad (mc ad ci r)) U.heap ∧ va_K (dC, dI) vwCl (xT ci) U)) (va_Qi (fun r9 (u : Unit) => post r9 ) (fun u t => va_P (dC, dI) vwCl (xw 7 ad (mc ad ci r)) t.heap) A) 0 0 A := by
  refine Met.ofW (cc := cX7_liesIn) (maxL := 4) (ret := (some .boolean)) (by decide) rfl ?_
  intro p e s m args below meth c s₁ B hml hv
  obtain ⟨eargs, hP, hK⟩ := hv
  have C0 : xC p s m args meth c cX7_liesIn 4 (some .boolean) RX7 wsX7_liesIn (dC, dI) (xT ci) := ⟨B.exec, B.bytes, hml, B.returns, B.notSynchronized, findClass_of_methodNamed B.named, atoms_spec (ws := wsX7_liesIn) B.pre, hK⟩
  obtain ⟨hx, hb, -, hr, hlocks, hown, hts, -⟩ := id C0
  have hS : va_S A s.heap s.heap [] := va_S.rf
  have hl := lv_entry ([.ref (ad 0), .int x1, .int x2, .int x3]) (n := 4) (Nat.le_of_ble_eq_true rfl)
  have ef : entryFrame m args 4 = entryFrame m ([.ref (ad 0), .int x1, .int x2, .int x3] : List Value).toArray 4 := by rw [eargs]
  rw [ef, lg_entry_eq]
  generalize (lg_sl ([.ref (ad 0), .int x1, .int x2, .int x3]) ++ List.replicate (4 - (lg_sl ([.ref (ad 0), .int x1, .int x2, .int x3])).length) Slot.unset).toArray = ls at hl ⊢
  have hl : lv_has ls 4 [(0, .ref (ad 0)), (1, .int x1), (2, .int x2), (3, .int x3)] := hl
  have hP : va_P (dC, dI) vwCl (xw 7 ad (mc ad ci r)) s.heap := hP
  unfold PX7_liesIn at h
  refine lv_aload_n hx hb dX7_liesIn_0 rfl (lv_at hl 0 rfl) ?_
  refine lv_iload_n hx hb dX7_liesIn_1 rfl (lv_at hl 1 rfl) ?_
  refine va_calli (va_runV (As := [.int x1]) (rest := []) ⟨hx, hb, C0.2.2.1, hown, hts⟩ (qX7_hasTick l dC dI ad ci A hAD r x1 _ h) (cwV 1 hts gX7_liesIn_X7_hasTick rfl rfl rfl (by decide +kernel) ⟨Nat.le_of_ble_eq_true rfl, Nat.le_of_ble_eq_true rfl⟩) ⟨xr_blind, xr_recv (r := (RX7, TX7, 9)) hK hP 0 (by decide) me_M rfl, xr_pre hP hK⟩ rfl rfl hl.1 rfl (lv_room (Nat.le_of_ble_eq_true rfl)) dX7_liesIn_2 ⟨Nat.le_of_ble_eq_true rfl, Nat.le_of_ble_eq_true rfl⟩) hS (fun _ _ h => h) (fun _ h => h) (fun r_1 _ t9 H locs ht hvm h hB _ _ hS => ?_)
  refine W.cs (cells' := 0) (slots' := 0) rfl rfl ?_
  have hP := x_th ht hB
  have hP : va_P (dC, dI) vwCl (xw 7 ad (mc ad ci r)) H := hP
  refine lv_if_eq (tgt := 40) hx hb dX7_liesIn_5 (by decide) (fun c_2 => ?_) (fun c_2 => ?_)
  · have h := h.1 c_2
    refine lv_iconst (v := (0 : Int32)) hx hb dX7_liesIn_40 (by decide) ?_
    exact W.zret (v := (0 : Int32)) (ty := .boolean) hx hb hr (by decide) (fun t ht hW => ⟨⟨(0 : Int32), (), rfl, h, x_ht ht hP⟩, hS.F ht⟩) hS.2.2 dX7_liesIn_41
  · have h := h.2 c_2
    refine lv_aload_n hx hb dX7_liesIn_8 rfl (lv_at hl 0 rfl) ?_
    refine lv_aload_n hx hb dX7_liesIn_9 rfl (lv_at hl 0 rfl) ?_
    refine lv_iload_n hx hb dX7_liesIn_10 rfl (lv_at hl 1 rfl) ?_
    refine lv_iconst (v := (3 : Int32)) hx hb dX7_liesIn_11 (by decide) ?_
    refine va_calll (va_runV (As := [.int x1, .int (3 : Int32)]) (rest := [.ref (ad 0)]) ⟨hx, hb, C0.2.2.1, hown, hts⟩ (qX7_get l dC dI ad ci A hAD r x1 (3 : Int32) _ h) (cwV 2 hts gX7_liesIn_X7_get rfl rfl rfl (by decide +kernel) ⟨Nat.le_of_ble_eq_true rfl, Nat.le_of_ble_eq_true rfl⟩) ⟨xr_blind, xr_recv (r := (RX7, TX7, 9)) hK hP 0 (by decide) me_M rfl, xr_pre hP hK⟩ rfl rfl hl.1 rfl (lv_room (Nat.le_of_ble_eq_true rfl)) dX7_liesIn_12 ⟨Nat.le_of_ble_eq_true rfl, Nat.le_of_ble_eq_true rfl⟩) hS (fun _ _ h => h) (fun _ h => h) (fun r_3 _ t9 H locs ht hvm h hB _ _ hS => ?_)
    refine W.cs (cells' := 0) (slots' := 0) rfl rfl ?_
    have hP := x_th ht hB
    have hP : va_P (dC, dI) vwCl (xw 7 ad (mc ad ci r)) H := hP
    refine va_calli (va_runV (As := [.long r_3]) (rest := []) ⟨hx, hb, C0.2.2.1, hown, hts⟩ (qX7_wheelOf l dC dI ad ci A hAD r r_3 _ h) (cwV 1 hts gX7_liesIn_X7_wheelOf rfl rfl rfl (by decide +kernel) ⟨Nat.le_of_ble_eq_true rfl, Nat.le_of_ble_eq_true rfl⟩) ⟨xr_blind, xr_recv (r := (RX7, TX7, 9)) hK hP 0 (by decide) me_M rfl, xr_pre hP hK⟩ rfl rfl hl.1 rfl (lv_room (Nat.le_of_ble_eq_true rfl)) dX7_liesIn_15 ⟨Nat.le_of_ble_eq_true rfl, Nat.le_of_ble_eq_true rfl⟩) hS (fun _ _ h => h) (fun _ h => h) (fun r_4 _ t9 H locs ht hvm h hB _ _ hS => ?_)
    refine W.cs (cells' := 0) (slots' := 0) rfl rfl ?_
    have hP := x_th ht hB
    have hP : va_P (dC, dI) vwCl (xw 7 ad (mc ad ci r)) H := hP
    refine lv_iload_n hx hb dX7_liesIn_18 rfl (lv_at hl 2 rfl) ?_
    refine lv_icmp_ne (tgt := 40) hx hb dX7_liesIn_19 (by decide) (fun c_5 => ?_) (fun c_5 => ?_)
    · have h := h.2 c_5
      refine lv_iconst (v := (0 : Int32)) hx hb dX7_liesIn_40 (by decide) ?_
      exact W.zret (v := (0 : Int32)) (ty := .boolean) hx hb hr (by decide) (fun t ht hW => ⟨⟨(0 : Int32), (), rfl, h, x_ht ht hP⟩, hS.F ht⟩) hS.2.2 dX7_liesIn_41
    · have h := h.1 c_5
      refine lv_aload_n hx hb dX7_liesIn_22 rfl (lv_at hl 0 rfl) ?_
      refine lv_iload_n hx hb dX7_liesIn_23 rfl (lv_at hl 1 rfl) ?_
      refine lv_iconst (v := (3 : Int32)) hx hb dX7_liesIn_24 (by decide) ?_
      refine va_calll (va_runV (As := [.int x1, .int (3 : Int32)]) (rest := []) ⟨hx, hb, C0.2.2.1, hown, hts⟩ (qX7_get l dC dI ad ci A hAD r x1 (3 : Int32) _ h) (cwV 2 hts gX7_liesIn_X7_get rfl rfl rfl (by decide +kernel) ⟨Nat.le_of_ble_eq_true rfl, Nat.le_of_ble_eq_true rfl⟩) ⟨xr_blind, xr_recv (r := (RX7, TX7, 9)) hK hP 0 (by decide) me_M rfl, xr_pre hP hK⟩ rfl rfl hl.1 rfl (lv_room (Nat.le_of_ble_eq_true rfl)) dX7_liesIn_25 ⟨Nat.le_of_ble_eq_true rfl, Nat.le_of_ble_eq_true rfl⟩) hS (fun _ _ h => h) (fun _ h => h) (fun r_6 _ t9 H locs ht hvm h hB _ _ hS => ?_)
      refine W.cs (cells' := 0) (slots' := 0) rfl rfl ?_
      have hP := x_th ht hB
      have hP : va_P (dC, dI) vwCl (xw 7 ad (mc ad ci r)) H := hP
      refine lv_iload_n hx hb dX7_liesIn_28 rfl (lv_at hl 2 rfl) ?_
      refine va_calli (va_runS (As := [.long r_6, .int x2]) (rest := []) ⟨hx, hb, C0.2.2.1, hown, hts⟩ (qX7_slotOf l dC dI 7 ad (mc ad ci r) (xT ci) A r_6 x2 _ h) (va_cwS 2 hts gX7_liesIn_X7_slotOf rfl rfl rfl (by decide +kernel) ⟨Nat.le_of_ble_eq_true rfl, Nat.le_of_ble_eq_true rfl⟩) ⟨xr_blind, xr_pre hP hK⟩ rfl rfl hl.1 rfl (lv_room (Nat.le_of_ble_eq_true rfl)) dX7_liesIn_29 ⟨Nat.le_of_ble_eq_true rfl, Nat.le_of_ble_eq_true rfl⟩) hS (fun _ _ h => h) (fun _ h => h) (fun r_7 _ t9 H locs ht hvm h hB _ _ hS => ?_)
      refine W.cs (cells' := 0) (slots' := 0) rfl rfl ?_
      have hP := x_th ht hB
      have hP : va_P (dC, dI) vwCl (xw 7 ad (mc ad ci r)) H := hP
      refine lv_iload_n hx hb dX7_liesIn_32 rfl (lv_at hl 3 rfl) ?_
      refine lv_icmp_ne (tgt := 40) hx hb dX7_liesIn_33 (by decide) (fun c_8 => ?_) (fun c_8 => ?_)
      · have h := h.2 c_8
        refine lv_iconst (v := (0 : Int32)) hx hb dX7_liesIn_40 (by decide) ?_
        exact W.zret (v := (0 : Int32)) (ty := .boolean) hx hb hr (by decide) (fun t ht hW => ⟨⟨(0 : Int32), (), rfl, h, x_ht ht hP⟩, hS.F ht⟩) hS.2.2 dX7_liesIn_41
      · have h := h.1 c_8
        refine lv_iconst (v := (1 : Int32)) hx hb dX7_liesIn_36 (by decide) ?_
        refine lv_goto (tgt := 41) hx hb dX7_liesIn_37 (by decide) ?_
        exact W.zret (v := (1 : Int32)) (ty := .boolean) hx hb hr (by decide) (fun t ht hW => ⟨⟨(1 : Int32), (), rfl, h, x_ht ht hP⟩, hS.F ht⟩) hS.2.2 dX7_liesIn_41
abbrev rmX7_bits : Room := { frames := 3, cells := 0, slots := 0, locals := 67 }
theorem wX7_bits_k107 : Cond.constantLong RX7 107 (4) ∈ wsX7_bits := by decide +kernel
theorem wX7_bits_k73 : Cond.constantLong RX7 73 (-2000000001) ∈ wsX7_bits := by decide +kernel
def LX7_bits_21  (r : MmV) (x1 : Int32)  (post : Int64 → Prop) : Nat → Int64 → Int32 → Prop
  | 0, _, _ => False
  | n + 1, x2, x4 => (((200 : Int32) ≤ x4 → post x2) ∧ (¬ (200 : Int32) ≤ x4 → (PX7_hasTick r x4 (fun (r_4 : Int32) => ((r_4 = 0 → ∀ x4_6 : Int32, x4_6 = x4 + 1 → LX7_bits_21  r x1 post n x2 x4_6) ∧ (¬ r_4 = 0 → (PX7_get r x4 (3 : Int32) (fun (r_7 : Int64) => (PX7_wheelOf r r_7 (fun (r_8 : Int32) => ((r_8 = x1 → (PX7_get r x4 (3 : Int32) (fun (r_11 : Int64) => (PX7_slotOf r_11 x1 (fun (r_12 : Int32) => ∀ x2_13 : Int64, x2_13 = (x2 ||| ((1 : Int64) <<< (r_12.toInt64 &&& 63))) → ∀ x4_14 : Int32, x4_14 = x4 + 1 → LX7_bits_21  r x1 post n x2_13 x4_14))))) ∧ (¬ r_8 = x1 → ∀ x4_10 : Int32, x4_10 = x4 + 1 → LX7_bits_21  r x1 post n x2 x4_10))))))))))))
set_option maxHeartbeats 4000000 in
set_option maxRecDepth 100000 in
theorem kX7_bits_21 {p : Program} {e : Env} {s : State} {m : MethodId} {args : Array Value} {below : List Frame} {meth : Method} {c : Code} (l : Launch) (dC : Nat → ClassId) (dI : Nat → Nat → Nat) (ad : Nat → Nat) (ci : Nat → ClassId) (A : Nat → Prop) (hAD : xw_D 7 ad A) (r : MmV) (x1 : Int32)  (post : Int64 → Prop) (C0 : xC p s m args meth c cX7_bits 5 (some .long) RX7 wsX7_bits (dC, dI) (xT ci)) : ∀ (n : Nat) (x2 : Int64) (x4 : Int32) (H : Heap) (locs : List Loc) (ls : Array Slot), LX7_bits_21  r x1 post n x2 x4 → va_P (dC, dI) vwCl (xw 7 ad (mc ad ci r)) H → va_S A s.heap H locs → lv_has ls 5 [(0, .ref (ad 0)), (1, .int x1), (2, .long x2), (4, .int x4)] → W p l e rmX7_bits s m args below meth c H locs 0 0 (MQ below (va_Ql (fun r9 (u : Unit) => post r9 ) (fun u t => va_P (dC, dI) vwCl (xw 7 ad (mc ad ci r)) t.heap) A) args s 0 0 A) (F0 m 21 ls []) := by
  obtain ⟨hx, hb, -, hr, hlocks, hown, hts, hK⟩ := id C0
  intro n
  induction n with
  | zero =>
    intro x2 x4 H locs ls h
    exact False.elim h
  | succ n ih =>
    intro x2 x4 H locs ls h hP hS hl
    rw [LX7_bits_21] at h
    refine lv_iload hx hb dX7_bits_21 (lv_at hl 3 rfl) ?_
    refine lv_sipush (v := (200 : Int32)) hx hb dX7_bits_23 (by decide) ?_
    refine lv_icmp_ge (tgt := 75) hx hb dX7_bits_26 (by decide) (fun c_3 => ?_) (fun c_3 => ?_)
    · have h := h.1 c_3
      refine lv_lload_n hx hb dX7_bits_75 rfl (lv_at hl 2 rfl) ?_
      exact W.lret (v := x2) hx hb hr (fun t ht hW => ⟨⟨x2, (), rfl, h, x_ht ht hP⟩, hS.F ht⟩) hS.2.2 dX7_bits_76
    · have h := h.2 c_3
      refine lv_aload_n hx hb dX7_bits_29 rfl (lv_at hl 0 rfl) ?_
      refine lv_iload hx hb dX7_bits_30 (lv_at hl 3 rfl) ?_
      refine va_calli (va_runV (As := [.int x4]) (rest := []) ⟨hx, hb, C0.2.2.1, hown, hts⟩ (qX7_hasTick l dC dI ad ci A hAD r x4 _ h) (cwV 1 hts gX7_bits_X7_hasTick rfl rfl rfl (by decide +kernel) ⟨Nat.le_of_ble_eq_true rfl, Nat.le_of_ble_eq_true rfl⟩) ⟨xr_blind, xr_recv (r := (RX7, TX7, 9)) hK hP 0 (by decide) me_M rfl, xr_pre hP hK⟩ rfl rfl hl.1 rfl (lv_room (Nat.le_of_ble_eq_true rfl)) dX7_bits_32 ⟨Nat.le_of_ble_eq_true rfl, Nat.le_of_ble_eq_true rfl⟩) hS (fun _ _ h => h) (fun _ h => h) (fun r_4 _ t9 H locs ht hvm h hB _ _ hS => ?_)
      refine W.cs (cells' := 0) (slots' := 0) rfl rfl ?_
      have hP := x_th ht hB
      have hP : va_P (dC, dI) vwCl (xw 7 ad (mc ad ci r)) H := hP
      refine lv_if_eq (tgt := 69) hx hb dX7_bits_35 (by decide) (fun c_5 => ?_) (fun c_5 => ?_)
      · have h := h.1 c_5
        obtain ⟨x4_6, ex4_6⟩ : ∃ z : Int32, z = x4 + 1 := ⟨_, rfl⟩
        have h := h x4_6 ex4_6
        refine lv_iinc (v := x4_6) (lv' := [(4, .int x4_6), (0, .ref (ad 0)), (1, .int x1), (2, .long x2)]) hx hb dX7_bits_69 hl (k := 3) rfl (by rw [ex4_6]; rfl) (by decide) rfl (fun ls hl => ?_)
        refine lv_goto (tgt := 21) hx hb dX7_bits_72 (by decide) ?_
        exact ih x2 x4_6 _ _ _ h hP hS (lv_sub hl [1, 2, 3, 0] rfl)
      · have h := h.2 c_5
        refine lv_aload_n hx hb dX7_bits_38 rfl (lv_at hl 0 rfl) ?_
        refine lv_aload_n hx hb dX7_bits_39 rfl (lv_at hl 0 rfl) ?_
        refine lv_iload hx hb dX7_bits_40 (lv_at hl 3 rfl) ?_
        refine lv_iconst (v := (3 : Int32)) hx hb dX7_bits_42 (by decide) ?_
        refine va_calll (va_runV (As := [.int x4, .int (3 : Int32)]) (rest := [.ref (ad 0)]) ⟨hx, hb, C0.2.2.1, hown, hts⟩ (qX7_get l dC dI ad ci A hAD r x4 (3 : Int32) _ h) (cwV 2 hts gX7_bits_X7_get rfl rfl rfl (by decide +kernel) ⟨Nat.le_of_ble_eq_true rfl, Nat.le_of_ble_eq_true rfl⟩) ⟨xr_blind, xr_recv (r := (RX7, TX7, 9)) hK hP 0 (by decide) me_M rfl, xr_pre hP hK⟩ rfl rfl hl.1 rfl (lv_room (Nat.le_of_ble_eq_true rfl)) dX7_bits_43 ⟨Nat.le_of_ble_eq_true rfl, Nat.le_of_ble_eq_true rfl⟩) hS (fun _ _ h => h) (fun _ h => h) (fun r_7 _ t9 H locs ht hvm h hB _ _ hS => ?_)
        refine W.cs (cells' := 0) (slots' := 0) rfl rfl ?_
        have hP := x_th ht hB
        have hP : va_P (dC, dI) vwCl (xw 7 ad (mc ad ci r)) H := hP
        refine va_calli (va_runV (As := [.long r_7]) (rest := []) ⟨hx, hb, C0.2.2.1, hown, hts⟩ (qX7_wheelOf l dC dI ad ci A hAD r r_7 _ h) (cwV 1 hts gX7_bits_X7_wheelOf rfl rfl rfl (by decide +kernel) ⟨Nat.le_of_ble_eq_true rfl, Nat.le_of_ble_eq_true rfl⟩) ⟨xr_blind, xr_recv (r := (RX7, TX7, 9)) hK hP 0 (by decide) me_M rfl, xr_pre hP hK⟩ rfl rfl hl.1 rfl (lv_room (Nat.le_of_ble_eq_true rfl)) dX7_bits_46 ⟨Nat.le_of_ble_eq_true rfl, Nat.le_of_ble_eq_true rfl⟩) hS (fun _ _ h => h) (fun _ h => h) (fun r_8 _ t9 H locs ht hvm h hB _ _ hS => ?_)
        refine W.cs (cells' := 0) (slots' := 0) rfl rfl ?_
        have hP := x_th ht hB
        have hP : va_P (dC, dI) vwCl (xw 7 ad (mc ad ci r)) H := hP
        refine lv_iload_n hx hb dX7_bits_49 rfl (lv_at hl 1 rfl) ?_
        refine lv_icmp_ne (tgt := 69) hx hb dX7_bits_50 (by decide) (fun c_9 => ?_) (fun c_9 => ?_)
        · have h := h.2 c_9
          obtain ⟨x4_10, ex4_10⟩ : ∃ z : Int32, z = x4 + 1 := ⟨_, rfl⟩
          have h := h x4_10 ex4_10
          refine lv_iinc (v := x4_10) (lv' := [(4, .int x4_10), (0, .ref (ad 0)), (1, .int x1), (2, .long x2)]) hx hb dX7_bits_69 hl (k := 3) rfl (by rw [ex4_10]; rfl) (by decide) rfl (fun ls hl => ?_)
          refine lv_goto (tgt := 21) hx hb dX7_bits_72 (by decide) ?_
          exact ih x2 x4_10 _ _ _ h hP hS (lv_sub hl [1, 2, 3, 0] rfl)
        · have h := h.1 c_9
          refine lv_lload_n hx hb dX7_bits_53 rfl (lv_at hl 2 rfl) ?_
          refine lv_lconst (v := (1 : Int64)) hx hb dX7_bits_54 (by decide) ?_
          refine lv_aload_n hx hb dX7_bits_55 rfl (lv_at hl 0 rfl) ?_
          refine lv_iload hx hb dX7_bits_56 (lv_at hl 3 rfl) ?_
          refine lv_iconst (v := (3 : Int32)) hx hb dX7_bits_58 (by decide) ?_
          refine va_calll (va_runV (As := [.int x4, .int (3 : Int32)]) (rest := [.long (1 : Int64), .long x2]) ⟨hx, hb, C0.2.2.1, hown, hts⟩ (qX7_get l dC dI ad ci A hAD r x4 (3 : Int32) _ h) (cwV 2 hts gX7_bits_X7_get rfl rfl rfl (by decide +kernel) ⟨Nat.le_of_ble_eq_true rfl, Nat.le_of_ble_eq_true rfl⟩) ⟨xr_blind, xr_recv (r := (RX7, TX7, 9)) hK hP 0 (by decide) me_M rfl, xr_pre hP hK⟩ rfl rfl hl.1 rfl (lv_room (Nat.le_of_ble_eq_true rfl)) dX7_bits_59 ⟨Nat.le_of_ble_eq_true rfl, Nat.le_of_ble_eq_true rfl⟩) hS (fun _ _ h => h) (fun _ h => h) (fun r_11 _ t9 H locs ht hvm h hB _ _ hS => ?_)
          refine W.cs (cells' := 0) (slots' := 0) rfl rfl ?_
          have hP := x_th ht hB
          have hP : va_P (dC, dI) vwCl (xw 7 ad (mc ad ci r)) H := hP
          refine lv_iload_n hx hb dX7_bits_62 rfl (lv_at hl 1 rfl) ?_
          refine va_calli (va_runS (As := [.long r_11, .int x1]) (rest := [.long (1 : Int64), .long x2]) ⟨hx, hb, C0.2.2.1, hown, hts⟩ (qX7_slotOf l dC dI 7 ad (mc ad ci r) (xT ci) A r_11 x1 _ h) (va_cwS 2 hts gX7_bits_X7_slotOf rfl rfl rfl (by decide +kernel) ⟨Nat.le_of_ble_eq_true rfl, Nat.le_of_ble_eq_true rfl⟩) ⟨xr_blind, xr_pre hP hK⟩ rfl rfl hl.1 rfl (lv_room (Nat.le_of_ble_eq_true rfl)) dX7_bits_63 ⟨Nat.le_of_ble_eq_true rfl, Nat.le_of_ble_eq_true rfl⟩) hS (fun _ _ h => h) (fun _ h => h) (fun r_12 _ t9 H locs ht hvm h hB _ _ hS => ?_)
          refine W.cs (cells' := 0) (slots' := 0) rfl rfl ?_
          have hP := x_th ht hB
          have hP : va_P (dC, dI) vwCl (xw 7 ad (mc ad ci r)) H := hP
          refine lv_lshl hx hb dX7_bits_66 rfl ?_
          refine lv_lor hx hb dX7_bits_67 ?_
          refine lv_topl (fun x2_13 ex2_13 => ?_)
          have h := h x2_13 ex2_13
          refine lv_lstore_n (lv' := [(2, .long x2_13), (0, .ref (ad 0)), (1, .int x1), (4, .int x4)]) hx hb dX7_bits_68 rfl hl (by decide) rfl (fun ls hl => ?_)
          obtain ⟨x4_14, ex4_14⟩ : ∃ z : Int32, z = x4 + 1 := ⟨_, rfl⟩
          have h := h x4_14 ex4_14
          refine lv_iinc (v := x4_14) (lv' := [(4, .int x4_14), (2, .long x2_13), (0, .ref (ad 0)), (1, .int x1)]) hx hb dX7_bits_69 hl (k := 3) rfl (by rw [ex4_14]; rfl) (by decide) rfl (fun ls hl => ?_)
          refine lv_goto (tgt := 21) hx hb dX7_bits_72 (by decide) ?_
          exact ih x2_13 x4_14 _ _ _ h hP hS (lv_sub hl [2, 3, 1, 0] rfl)
def PX7_bits  (r : MmV) (x1 : Int32) (post : Int64 → Prop) : Prop :=
  (PX7_isIn (x1.toInt64) (0 : Int64) (4 : Int64) (fun (r_1 : Int32) => ((r_1 = 0 → post (-2000000001 : Int64)) ∧ (¬ r_1 = 0 → (∃ n_15 : Nat, LX7_bits_21  r x1  post n_15 (0 : Int64) (0 : Int32))))))
set_option maxHeartbeats 4000000 in
set_option maxRecDepth 100000 in
theorem qX7_bits (l : Launch) (dC : Nat → ClassId) (dI : Nat → Nat → Nat) (ad : Nat → Nat) (ci : Nat → ClassId) (A : Nat → Prop) (hAD : xw_D 7 ad A) (r : MmV) (x1 : Int32) (post : Int64 → Prop) (h : PX7_bits r x1 post) : Met l yX7_bits wsX7_bits rmX7_bits (va_Pc [.ref (ad 0), .int x1] (fun U => va_P (dC, dI) vwCl (xw 7 ad (mc ad ci r)) U.heap ∧ va_K (dC, dI) vwCl (xT ci) U)) (va_Ql (fun r9 (u : Unit) => post r9 ) (fun u t => va_P (dC, dI) vwCl (xw 7 ad (mc ad ci r)) t.heap) A) 0 0 A := by
  refine Met.ofW (cc := cX7_bits) (maxL := 5) (ret := (some .long)) (by decide) rfl ?_
  intro p e s m args below meth c s₁ B hml hv
  obtain ⟨eargs, hP, hK⟩ := hv
  have C0 : xC p s m args meth c cX7_bits 5 (some .long) RX7 wsX7_bits (dC, dI) (xT ci) := ⟨B.exec, B.bytes, hml, B.returns, B.notSynchronized, findClass_of_methodNamed B.named, atoms_spec (ws := wsX7_bits) B.pre, hK⟩
  obtain ⟨hx, hb, -, hr, hlocks, hown, hts, -⟩ := id C0
  have hS : va_S A s.heap s.heap [] := va_S.rf
  have hl := lv_entry ([.ref (ad 0), .int x1]) (n := 5) (Nat.le_of_ble_eq_true rfl)
  have ef : entryFrame m args 5 = entryFrame m ([.ref (ad 0), .int x1] : List Value).toArray 5 := by rw [eargs]
  rw [ef, lg_entry_eq]
  generalize (lg_sl ([.ref (ad 0), .int x1]) ++ List.replicate (5 - (lg_sl ([.ref (ad 0), .int x1])).length) Slot.unset).toArray = ls at hl ⊢
  have hl : lv_has ls 5 [(0, .ref (ad 0)), (1, .int x1)] := hl
  have hP : va_P (dC, dI) vwCl (xw 7 ad (mc ad ci r)) s.heap := hP
  unfold PX7_bits at h
  refine lv_iload_n hx hb dX7_bits_0 rfl (lv_at hl 1 rfl) ?_
  refine lv_i2l hx hb dX7_bits_1 rfl ?_
  refine lv_lconst (v := (0 : Int64)) hx hb dX7_bits_2 (by decide) ?_
  refine lv_ldc2 (v := (4 : Int64)) hx hb hown (hts _ wX7_bits_k107) dX7_bits_3 ?_
  refine va_calli (va_runS (As := [.long (x1.toInt64), .long (0 : Int64), .long (4 : Int64)]) (rest := []) ⟨hx, hb, C0.2.2.1, hown, hts⟩ (qX7_isIn l dC dI 7 ad (mc ad ci r) (xT ci) A (x1.toInt64) (0 : Int64) (4 : Int64) _ h) (va_cwS 3 hts gX7_bits_X7_isIn rfl rfl rfl (by decide +kernel) ⟨Nat.le_of_ble_eq_true rfl, Nat.le_of_ble_eq_true rfl⟩) ⟨xr_blind, xr_pre hP hK⟩ rfl rfl hl.1 rfl (lv_room (Nat.le_of_ble_eq_true rfl)) dX7_bits_6 ⟨Nat.le_of_ble_eq_true rfl, Nat.le_of_ble_eq_true rfl⟩) hS (fun _ _ h => h) (fun _ h => h) (fun r_1 _ t9 H locs ht hvm h hB _ _ hS => ?_)
  refine W.cs (cells' := 0) (slots' := 0) rfl rfl ?_
  have hP := x_th ht hB
  have hP : va_P (dC, dI) vwCl (xw 7 ad (mc ad ci r)) H := hP
  refine lv_if_ne (tgt := 16) hx hb dX7_bits_9 (by decide) (fun c_2 => ?_) (fun c_2 => ?_)
  · have h := h.2 c_2
    refine lv_lconst (v := (0 : Int64)) hx hb dX7_bits_16 (by decide) ?_
    refine lv_lstore_n (lv' := [(2, .long (0 : Int64)), (0, .ref (ad 0)), (1, .int x1)]) hx hb dX7_bits_17 rfl hl (by decide) rfl (fun ls hl => ?_)
    refine lv_iconst (v := (0 : Int32)) hx hb dX7_bits_18 (by decide) ?_
    refine lv_istore (lv' := [(4, .int (0 : Int32)), (2, .long (0 : Int64)), (0, .ref (ad 0)), (1, .int x1)]) hx hb dX7_bits_19 hl (by decide) rfl (fun ls hl => ?_)
    obtain ⟨n_15, h⟩ := h
    exact kX7_bits_21 l dC dI ad ci A hAD r   x1  post C0  n_15 (0 : Int64) (0 : Int32) _ _ _ h hP hS (lv_sub hl [2, 3, 1, 0] rfl)
  · have h := h.1 c_2
    refine lv_ldc2 (v := (-2000000001 : Int64)) hx hb hown (hts _ wX7_bits_k73) dX7_bits_12 ?_
    exact W.lret (v := (-2000000001 : Int64)) hx hb hr (fun t ht hW => ⟨⟨(-2000000001 : Int64), (), rfl, h, x_ht ht hP⟩, hS.F ht⟩) hS.2.2 dX7_bits_15
abbrev rmX7_isSlot : Room := { frames := 1, cells := 0, slots := 0, locals := 25 }
theorem wX7_isSlot_k183 : Cond.constantLong RX7 183 (5) ∈ wsX7_isSlot := by decide +kernel
theorem wX7_isSlot_k118 : Cond.constantLong RX7 118 (63) ∈ wsX7_isSlot := by decide +kernel
def PX7_isSlot   (x0 : Int32) (x1 : Int32) (post : Int32 → Prop) : Prop :=
  (PX7_isIn (x0.toInt64) (0 : Int64) (5 : Int64) (fun (r_1 : Int32) => ((r_1 = 0 → post (0 : Int32)) ∧ (¬ r_1 = 0 → ((x0 = (5 : Int32) → (PX7_isIn (x1.toInt64) (0 : Int64) (0 : Int64) (fun (r_6 : Int32) => ((r_6 = 0 → post (0 : Int32)) ∧ (¬ r_6 = 0 → post (1 : Int32)))))) ∧ (¬ x0 = (5 : Int32) → (PX7_isIn (x1.toInt64) (0 : Int64) (63 : Int64) (fun (r_4 : Int32) => ((r_4 = 0 → post (0 : Int32)) ∧ (¬ r_4 = 0 → post (1 : Int32)))))))))))
set_option maxHeartbeats 4000000 in
set_option maxRecDepth 100000 in
theorem qX7_isSlot (l : Launch) (dC : Nat → ClassId) (dI : Nat → Nat → Nat) (nn : Nat) (ad : Nat → Nat) (ff : Nat → va_E) (tys : List (ClassId × FieldType)) (A : Nat → Prop)  (x0 : Int32) (x1 : Int32) (post : Int32 → Prop) (h : PX7_isSlot x0 x1 post) : Met l yX7_isSlot wsX7_isSlot rmX7_isSlot (va_Pc [.int x0, .int x1] (fun U => va_P (dC, dI) vwCl (xw nn ad ff) U.heap ∧ va_K (dC, dI) vwCl tys U)) (va_Qi (fun r9 (u : Unit) => post r9 ) (fun u t => va_P (dC, dI) vwCl (xw nn ad ff) t.heap) A) 0 0 A := by
  refine Met.ofW (cc := cX7_isSlot) (maxL := 2) (ret := (some .boolean)) (by decide) rfl ?_
  intro p e s m args below meth c s₁ B hml hv
  obtain ⟨eargs, hP, hK⟩ := hv
  have C0 : xC p s m args meth c cX7_isSlot 2 (some .boolean) RX7 wsX7_isSlot (dC, dI) tys := ⟨B.exec, B.bytes, hml, B.returns, B.notSynchronized, findClass_of_methodNamed B.named, atoms_spec (ws := wsX7_isSlot) B.pre, hK⟩
  obtain ⟨hx, hb, -, hr, hlocks, hown, hts, -⟩ := id C0
  have hS : va_S A s.heap s.heap [] := va_S.rf
  have hl := lv_entry ([.int x0, .int x1]) (n := 2) (Nat.le_of_ble_eq_true rfl)
  have ef : entryFrame m args 2 = entryFrame m ([.int x0, .int x1] : List Value).toArray 2 := by rw [eargs]
  rw [ef, lg_entry_eq]
  generalize (lg_sl ([.int x0, .int x1]) ++ List.replicate (2 - (lg_sl ([.int x0, .int x1])).length) Slot.unset).toArray = ls at hl ⊢
  have hl : lv_has ls 2 [(0, .int x0), (1, .int x1)] := hl
  have hP : va_P (dC, dI) vwCl (xw nn ad ff) s.heap := hP
  unfold PX7_isSlot at h
  refine lv_iload_n hx hb dX7_isSlot_0 rfl (lv_at hl 0 rfl) ?_
  refine lv_i2l hx hb dX7_isSlot_1 rfl ?_
  refine lv_lconst (v := (0 : Int64)) hx hb dX7_isSlot_2 (by decide) ?_
  refine lv_ldc2 (v := (5 : Int64)) hx hb hown (hts _ wX7_isSlot_k183) dX7_isSlot_3 ?_
  refine va_calli (va_runS (As := [.long (x0.toInt64), .long (0 : Int64), .long (5 : Int64)]) (rest := []) ⟨hx, hb, C0.2.2.1, hown, hts⟩ (qX7_isIn l dC dI nn ad ff tys A (x0.toInt64) (0 : Int64) (5 : Int64) _ h) (va_cwS 3 hts gX7_isSlot_X7_isIn rfl rfl rfl (by decide +kernel) ⟨Nat.le_of_ble_eq_true rfl, Nat.le_of_ble_eq_true rfl⟩) ⟨xr_blind, xr_pre hP hK⟩ rfl rfl hl.1 rfl (lv_room (Nat.le_of_ble_eq_true rfl)) dX7_isSlot_6 ⟨Nat.le_of_ble_eq_true rfl, Nat.le_of_ble_eq_true rfl⟩) hS (fun _ _ h => h) (fun _ h => h) (fun r_1 _ t9 H locs ht hvm h hB _ _ hS => ?_)
  refine W.cs (cells' := 0) (slots' := 0) rfl rfl ?_
  have hP := x_th ht hB
  have hP : va_P (dC, dI) vwCl (xw nn ad ff) H := hP
  refine lv_if_eq (tgt := 37) hx hb dX7_isSlot_9 (by decide) (fun c_2 => ?_) (fun c_2 => ?_)
  · have h := h.1 c_2
    refine lv_iconst (v := (0 : Int32)) hx hb dX7_isSlot_37 (by decide) ?_
    exact W.zret (v := (0 : Int32)) (ty := .boolean) hx hb hr (by decide) (fun t ht hW => ⟨⟨(0 : Int32), (), rfl, h, x_ht ht hP⟩, hS.F ht⟩) hS.2.2 dX7_isSlot_38
  · have h := h.2 c_2
    refine lv_iload_n hx hb dX7_isSlot_12 rfl (lv_at hl 1 rfl) ?_
    refine lv_i2l hx hb dX7_isSlot_13 rfl ?_
    refine lv_lconst (v := (0 : Int64)) hx hb dX7_isSlot_14 (by decide) ?_
    refine lv_iload_n hx hb dX7_isSlot_15 rfl (lv_at hl 0 rfl) ?_
    refine lv_iconst (v := (5 : Int32)) hx hb dX7_isSlot_16 (by decide) ?_
    refine lv_icmp_ne (tgt := 24) hx hb dX7_isSlot_17 (by decide) (fun c_3 => ?_) (fun c_3 => ?_)
    · have h := h.2 c_3
      refine lv_ldc2 (v := (63 : Int64)) hx hb hown (hts _ wX7_isSlot_k118) dX7_isSlot_24 ?_
      refine va_calli (va_runS (As := [.long (x1.toInt64), .long (0 : Int64), .long (63 : Int64)]) (rest := []) ⟨hx, hb, C0.2.2.1, hown, hts⟩ (qX7_isIn l dC dI nn ad ff tys A (x1.toInt64) (0 : Int64) (63 : Int64) _ h) (va_cwS 3 hts gX7_isSlot_X7_isIn rfl rfl rfl (by decide +kernel) ⟨Nat.le_of_ble_eq_true rfl, Nat.le_of_ble_eq_true rfl⟩) ⟨xr_blind, xr_pre hP hK⟩ rfl rfl hl.1 rfl (lv_room (Nat.le_of_ble_eq_true rfl)) dX7_isSlot_27 ⟨Nat.le_of_ble_eq_true rfl, Nat.le_of_ble_eq_true rfl⟩) hS (fun _ _ h => h) (fun _ h => h) (fun r_4 _ t9 H locs ht hvm h hB _ _ hS => ?_)
      refine W.cs (cells' := 0) (slots' := 0) rfl rfl ?_
      have hP := x_th ht hB
      have hP : va_P (dC, dI) vwCl (xw nn ad ff) H := hP
      refine lv_if_eq (tgt := 37) hx hb dX7_isSlot_30 (by decide) (fun c_5 => ?_) (fun c_5 => ?_)
      · have h := h.1 c_5
        refine lv_iconst (v := (0 : Int32)) hx hb dX7_isSlot_37 (by decide) ?_
        exact W.zret (v := (0 : Int32)) (ty := .boolean) hx hb hr (by decide) (fun t ht hW => ⟨⟨(0 : Int32), (), rfl, h, x_ht ht hP⟩, hS.F ht⟩) hS.2.2 dX7_isSlot_38
      · have h := h.2 c_5
        refine lv_iconst (v := (1 : Int32)) hx hb dX7_isSlot_33 (by decide) ?_
        refine lv_goto (tgt := 38) hx hb dX7_isSlot_34 (by decide) ?_
        exact W.zret (v := (1 : Int32)) (ty := .boolean) hx hb hr (by decide) (fun t ht hW => ⟨⟨(1 : Int32), (), rfl, h, x_ht ht hP⟩, hS.F ht⟩) hS.2.2 dX7_isSlot_38
    · have h := h.1 c_3
      refine lv_lconst (v := (0 : Int64)) hx hb dX7_isSlot_20 (by decide) ?_
      refine lv_goto (tgt := 27) hx hb dX7_isSlot_21 (by decide) ?_
      refine va_calli (va_runS (As := [.long (x1.toInt64), .long (0 : Int64), .long (0 : Int64)]) (rest := []) ⟨hx, hb, C0.2.2.1, hown, hts⟩ (qX7_isIn l dC dI nn ad ff tys A (x1.toInt64) (0 : Int64) (0 : Int64) _ h) (va_cwS 3 hts gX7_isSlot_X7_isIn rfl rfl rfl (by decide +kernel) ⟨Nat.le_of_ble_eq_true rfl, Nat.le_of_ble_eq_true rfl⟩) ⟨xr_blind, xr_pre hP hK⟩ rfl rfl hl.1 rfl (lv_room (Nat.le_of_ble_eq_true rfl)) dX7_isSlot_27 ⟨Nat.le_of_ble_eq_true rfl, Nat.le_of_ble_eq_true rfl⟩) hS (fun _ _ h => h) (fun _ h => h) (fun r_6 _ t9 H locs ht hvm h hB _ _ hS => ?_)
      refine W.cs (cells' := 0) (slots' := 0) rfl rfl ?_
      have hP := x_th ht hB
      have hP : va_P (dC, dI) vwCl (xw nn ad ff) H := hP
      refine lv_if_eq (tgt := 37) hx hb dX7_isSlot_30 (by decide) (fun c_7 => ?_) (fun c_7 => ?_)
      · have h := h.1 c_7
        refine lv_iconst (v := (0 : Int32)) hx hb dX7_isSlot_37 (by decide) ?_
        exact W.zret (v := (0 : Int32)) (ty := .boolean) hx hb hr (by decide) (fun t ht hW => ⟨⟨(0 : Int32), (), rfl, h, x_ht ht hP⟩, hS.F ht⟩) hS.2.2 dX7_isSlot_38
      · have h := h.2 c_7
        refine lv_iconst (v := (1 : Int32)) hx hb dX7_isSlot_33 (by decide) ?_
        refine lv_goto (tgt := 38) hx hb dX7_isSlot_34 (by decide) ?_
        exact W.zret (v := (1 : Int32)) (ty := .boolean) hx hb hr (by decide) (fun t ht hW => ⟨⟨(1 : Int32), (), rfl, h, x_ht ht hP⟩, hS.F ht⟩) hS.2.2 dX7_isSlot_38
abbrev rmX7_many : Room := { frames := 4, cells := 0, slots := 0, locals := 90 }
theorem wX7_many_k73 : Cond.constantLong RX7 73 (-2000000001) ∈ wsX7_many := by decide +kernel
def LX7_many_17  (r : MmV) (x1 : Int32) (x2 : Int32)  (post : Int64 → Prop) : Nat → Int32 → Int32 → Prop
  | 0, _, _ => False
  | n + 1, x3, x4 => (((200 : Int32) ≤ x4 → post (x3.toInt64)) ∧ (¬ (200 : Int32) ≤ x4 → (PX7_liesIn r x4 x1 x2 (fun (r_4 : Int32) => ((r_4 = 0 → ∀ x3_6 : Int32, x3_6 = (x3 + (0 : Int32)) → ∀ x4_7 : Int32, x4_7 = x4 + 1 → LX7_many_17  r x1 x2 post n x3_6 x4_7) ∧ (¬ r_4 = 0 → ∀ x3_8 : Int32, x3_8 = (x3 + (1 : Int32)) → ∀ x4_9 : Int32, x4_9 = x4 + 1 → LX7_many_17  r x1 x2 post n x3_8 x4_9))))))
set_option maxHeartbeats 4000000 in
set_option maxRecDepth 100000 in
theorem kX7_many_17 {p : Program} {e : Env} {s : State} {m : MethodId} {args : Array Value} {below : List Frame} {meth : Method} {c : Code} (l : Launch) (dC : Nat → ClassId) (dI : Nat → Nat → Nat) (ad : Nat → Nat) (ci : Nat → ClassId) (A : Nat → Prop) (hAD : xw_D 7 ad A) (r : MmV) (x1 : Int32) (x2 : Int32)  (post : Int64 → Prop) (C0 : xC p s m args meth c cX7_many 5 (some .long) RX7 wsX7_many (dC, dI) (xT ci)) : ∀ (n : Nat) (x3 : Int32) (x4 : Int32) (H : Heap) (locs : List Loc) (ls : Array Slot), LX7_many_17  r x1 x2 post n x3 x4 → va_P (dC, dI) vwCl (xw 7 ad (mc ad ci r)) H → va_S A s.heap H locs → lv_has ls 5 [(0, .ref (ad 0)), (1, .int x1), (2, .int x2), (3, .int x3), (4, .int x4)] → W p l e rmX7_many s m args below meth c H locs 0 0 (MQ below (va_Ql (fun r9 (u : Unit) => post r9 ) (fun u t => va_P (dC, dI) vwCl (xw 7 ad (mc ad ci r)) t.heap) A) args s 0 0 A) (F0 m 17 ls []) := by
  obtain ⟨hx, hb, -, hr, hlocks, hown, hts, hK⟩ := id C0
  intro n
  induction n with
  | zero =>
    intro x3 x4 H locs ls h
    exact False.elim h
  | succ n ih =>
    intro x3 x4 H locs ls h hP hS hl
    rw [LX7_many_17] at h
    refine lv_iload hx hb dX7_many_17 (lv_at hl 4 rfl) ?_
    refine lv_sipush (v := (200 : Int32)) hx hb dX7_many_19 (by decide) ?_
    refine lv_icmp_ge (tgt := 50) hx hb dX7_many_22 (by decide) (fun c_3 => ?_) (fun c_3 => ?_)
    · have h := h.1 c_3
      refine lv_iload_n hx hb dX7_many_50 rfl (lv_at hl 3 rfl) ?_
      refine lv_i2l hx hb dX7_many_51 rfl ?_
      exact W.lret (v := (x3.toInt64)) hx hb hr (fun t ht hW => ⟨⟨(x3.toInt64), (), rfl, h, x_ht ht hP⟩, hS.F ht⟩) hS.2.2 dX7_many_52
    · have h := h.2 c_3
      refine lv_iload_n hx hb dX7_many_25 rfl (lv_at hl 3 rfl) ?_
      refine lv_aload_n hx hb dX7_many_26 rfl (lv_at hl 0 rfl) ?_
      refine lv_iload hx hb dX7_many_27 (lv_at hl 4 rfl) ?_
      refine lv_iload_n hx hb dX7_many_29 rfl (lv_at hl 1 rfl) ?_
      refine lv_iload_n hx hb dX7_many_30 rfl (lv_at hl 2 rfl) ?_
      refine va_calli (va_runV (As := [.int x4, .int x1, .int x2]) (rest := [.int x3]) ⟨hx, hb, C0.2.2.1, hown, hts⟩ (qX7_liesIn l dC dI ad ci A hAD r x4 x1 x2 _ h) (cwV 3 hts gX7_many_X7_liesIn rfl rfl rfl (by decide +kernel) ⟨Nat.le_of_ble_eq_true rfl, Nat.le_of_ble_eq_true rfl⟩) ⟨xr_blind, xr_recv (r := (RX7, TX7, 9)) hK hP 0 (by decide) me_M rfl, xr_pre hP hK⟩ rfl rfl hl.1 rfl (lv_room (Nat.le_of_ble_eq_true rfl)) dX7_many_31 ⟨Nat.le_of_ble_eq_true rfl, Nat.le_of_ble_eq_true rfl⟩) hS (fun _ _ h => h) (fun _ h => h) (fun r_4 _ t9 H locs ht hvm h hB _ _ hS => ?_)
      refine W.cs (cells' := 0) (slots' := 0) rfl rfl ?_
      have hP := x_th ht hB
      have hP : va_P (dC, dI) vwCl (xw 7 ad (mc ad ci r)) H := hP
      refine lv_if_eq (tgt := 41) hx hb dX7_many_34 (by decide) (fun c_5 => ?_) (fun c_5 => ?_)
      · have h := h.1 c_5
        refine lv_iconst (v := (0 : Int32)) hx hb dX7_many_41 (by decide) ?_
        refine lv_iadd hx hb dX7_many_42 ?_
        refine lv_topi (fun x3_6 ex3_6 => ?_)
        have h := h x3_6 ex3_6
        refine lv_istore_n (lv' := [(3, .int x3_6), (0, .ref (ad 0)), (1, .int x1), (2, .int x2), (4, .int x4)]) hx hb dX7_many_43 rfl hl (by decide) rfl (fun ls hl => ?_)
        obtain ⟨x4_7, ex4_7⟩ : ∃ z : Int32, z = x4 + 1 := ⟨_, rfl⟩
        have h := h x4_7 ex4_7
        refine lv_iinc (v := x4_7) (lv' := [(4, .int x4_7), (3, .int x3_6), (0, .ref (ad 0)), (1, .int x1), (2, .int x2)]) hx hb dX7_many_44 hl (k := 4) rfl (by rw [ex4_7]; rfl) (by decide) rfl (fun ls hl => ?_)
        refine lv_goto (tgt := 17) hx hb dX7_many_47 (by decide) ?_
        exact ih x3_6 x4_7 _ _ _ h hP hS (lv_sub hl [2, 3, 4, 1, 0] rfl)
      · have h := h.2 c_5
        refine lv_iconst (v := (1 : Int32)) hx hb dX7_many_37 (by decide) ?_
        refine lv_goto (tgt := 42) hx hb dX7_many_38 (by decide) ?_
        refine lv_iadd hx hb dX7_many_42 ?_
        refine lv_topi (fun x3_8 ex3_8 => ?_)
        have h := h x3_8 ex3_8
        refine lv_istore_n (lv' := [(3, .int x3_8), (0, .ref (ad 0)), (1, .int x1), (2, .int x2), (4, .int x4)]) hx hb dX7_many_43 rfl hl (by decide) rfl (fun ls hl => ?_)
        obtain ⟨x4_9, ex4_9⟩ : ∃ z : Int32, z = x4 + 1 := ⟨_, rfl⟩
        have h := h x4_9 ex4_9
        refine lv_iinc (v := x4_9) (lv' := [(4, .int x4_9), (3, .int x3_8), (0, .ref (ad 0)), (1, .int x1), (2, .int x2)]) hx hb dX7_many_44 hl (k := 4) rfl (by rw [ex4_9]; rfl) (by decide) rfl (fun ls hl => ?_)
        refine lv_goto (tgt := 17) hx hb dX7_many_47 (by decide) ?_
        exact ih x3_8 x4_9 _ _ _ h hP hS (lv_sub hl [2, 3, 4, 1, 0] rfl)
def PX7_many  (r : MmV) (x1 : Int32) (x2 : Int32) (post : Int64 → Prop) : Prop :=
  (PX7_isSlot x1 x2 (fun (r_1 : Int32) => ((r_1 = 0 → post (-2000000001 : Int64)) ∧ (¬ r_1 = 0 → (∃ n_10 : Nat, LX7_many_17  r x1 x2  post n_10 (0 : Int32) (0 : Int32))))))
set_option maxHeartbeats 4000000 in
set_option maxRecDepth 100000 in
theorem qX7_many (l : Launch) (dC : Nat → ClassId) (dI : Nat → Nat → Nat) (ad : Nat → Nat) (ci : Nat → ClassId) (A : Nat → Prop) (hAD : xw_D 7 ad A) (r : MmV) (x1 : Int32) (x2 : Int32) (post : Int64 → Prop) (h : PX7_many r x1 x2 post) : Met l yX7_many wsX7_many rmX7_many (va_Pc [.ref (ad 0), .int x1, .int x2] (fun U => va_P (dC, dI) vwCl (xw 7 ad (mc ad ci r)) U.heap ∧ va_K (dC, dI) vwCl (xT ci) U)) (va_Ql (fun r9 (u : Unit) => post r9 ) (fun u t => va_P (dC, dI) vwCl (xw 7 ad (mc ad ci r)) t.heap) A) 0 0 A := by
  refine Met.ofW (cc := cX7_many) (maxL := 5) (ret := (some .long)) (by decide) rfl ?_
  intro p e s m args below meth c s₁ B hml hv
  obtain ⟨eargs, hP, hK⟩ := hv
  have C0 : xC p s m args meth c cX7_many 5 (some .long) RX7 wsX7_many (dC, dI) (xT ci) := ⟨B.exec, B.bytes, hml, B.returns, B.notSynchronized, findClass_of_methodNamed B.named, atoms_spec (ws := wsX7_many) B.pre, hK⟩
  obtain ⟨hx, hb, -, hr, hlocks, hown, hts, -⟩ := id C0
  have hS : va_S A s.heap s.heap [] := va_S.rf
  have hl := lv_entry ([.ref (ad 0), .int x1, .int x2]) (n := 5) (Nat.le_of_ble_eq_true rfl)
  have ef : entryFrame m args 5 = entryFrame m ([.ref (ad 0), .int x1, .int x2] : List Value).toArray 5 := by rw [eargs]
  rw [ef, lg_entry_eq]
  generalize (lg_sl ([.ref (ad 0), .int x1, .int x2]) ++ List.replicate (5 - (lg_sl ([.ref (ad 0), .int x1, .int x2])).length) Slot.unset).toArray = ls at hl ⊢
  have hl : lv_has ls 5 [(0, .ref (ad 0)), (1, .int x1), (2, .int x2)] := hl
  have hP : va_P (dC, dI) vwCl (xw 7 ad (mc ad ci r)) s.heap := hP
  unfold PX7_many at h
  refine lv_iload_n hx hb dX7_many_0 rfl (lv_at hl 1 rfl) ?_
  refine lv_iload_n hx hb dX7_many_1 rfl (lv_at hl 2 rfl) ?_
  refine va_calli (va_runS (As := [.int x1, .int x2]) (rest := []) ⟨hx, hb, C0.2.2.1, hown, hts⟩ (qX7_isSlot l dC dI 7 ad (mc ad ci r) (xT ci) A x1 x2 _ h) (va_cwS 2 hts gX7_many_X7_isSlot rfl rfl rfl (by decide +kernel) ⟨Nat.le_of_ble_eq_true rfl, Nat.le_of_ble_eq_true rfl⟩) ⟨xr_blind, xr_pre hP hK⟩ rfl rfl hl.1 rfl (lv_room (Nat.le_of_ble_eq_true rfl)) dX7_many_2 ⟨Nat.le_of_ble_eq_true rfl, Nat.le_of_ble_eq_true rfl⟩) hS (fun _ _ h => h) (fun _ h => h) (fun r_1 _ t9 H locs ht hvm h hB _ _ hS => ?_)
  refine W.cs (cells' := 0) (slots' := 0) rfl rfl ?_
  have hP := x_th ht hB
  have hP : va_P (dC, dI) vwCl (xw 7 ad (mc ad ci r)) H := hP
  refine lv_if_ne (tgt := 12) hx hb dX7_many_5 (by decide) (fun c_2 => ?_) (fun c_2 => ?_)
  · have h := h.2 c_2
    refine lv_iconst (v := (0 : Int32)) hx hb dX7_many_12 (by decide) ?_
    refine lv_istore_n (lv' := [(3, .int (0 : Int32)), (0, .ref (ad 0)), (1, .int x1), (2, .int x2)]) hx hb dX7_many_13 rfl hl (by decide) rfl (fun ls hl => ?_)
    refine lv_iconst (v := (0 : Int32)) hx hb dX7_many_14 (by decide) ?_
    refine lv_istore (lv' := [(4, .int (0 : Int32)), (3, .int (0 : Int32)), (0, .ref (ad 0)), (1, .int x1), (2, .int x2)]) hx hb dX7_many_15 hl (by decide) rfl (fun ls hl => ?_)
    obtain ⟨n_10, h⟩ := h
    exact kX7_many_17 l dC dI ad ci A hAD r   x1 x2  post C0  n_10 (0 : Int32) (0 : Int32) _ _ _ h hP hS (lv_sub hl [2, 3, 4, 1, 0] rfl)
  · have h := h.1 c_2
    refine lv_ldc2 (v := (-2000000001 : Int64)) hx hb hown (hts _ wX7_many_k73) dX7_many_8 ?_
    exact W.lret (v := (-2000000001 : Int64)) hx hb hr (fun t ht hW => ⟨⟨(-2000000001 : Int64), (), rfl, h, x_ht ht hP⟩, hS.F ht⟩) hS.2.2 dX7_many_11
abbrev rmX7_in : Room := { frames := 4, cells := 0, slots := 0, locals := 90 }
theorem wX7_in_k73 : Cond.constantLong RX7 73 (-2000000001) ∈ wsX7_in := by decide +kernel
theorem wX7_in_k48 : Cond.constantLong RX7 48 (-2000000005) ∈ wsX7_in := by decide +kernel
def LX7_in_22  (r : MmV) (x1 : Int32) (x2 : Int32) (x3 : Int32)  (post : Int64 → Prop) : Nat → Int32 → Int32 → Prop
  | 0, _, _ => False
  | n + 1, x4, x5 => (((200 : Int32) ≤ x5 → post (-2000000005 : Int64)) ∧ (¬ (200 : Int32) ≤ x5 → (PX7_liesIn r x5 x1 x2 (fun (r_5 : Int32) => ((r_5 = 0 → ∀ x5_7 : Int32, x5_7 = x5 + 1 → LX7_in_22  r x1 x2 x3 post n x4 x5_7) ∧ (¬ r_5 = 0 → ((x4 = x3 → post (x5.toInt64)) ∧ (¬ x4 = x3 → ∀ x4_9 : Int32, x4_9 = x4 + 1 → ∀ x5_10 : Int32, x5_10 = x5 + 1 → LX7_in_22  r x1 x2 x3 post n x4_9 x5_10))))))))
set_option maxHeartbeats 4000000 in
set_option maxRecDepth 100000 in
theorem kX7_in_22 {p : Program} {e : Env} {s : State} {m : MethodId} {args : Array Value} {below : List Frame} {meth : Method} {c : Code} (l : Launch) (dC : Nat → ClassId) (dI : Nat → Nat → Nat) (ad : Nat → Nat) (ci : Nat → ClassId) (A : Nat → Prop) (hAD : xw_D 7 ad A) (r : MmV) (x1 : Int32) (x2 : Int32) (x3 : Int32)  (post : Int64 → Prop) (C0 : xC p s m args meth c cX7_in 6 (some .long) RX7 wsX7_in (dC, dI) (xT ci)) : ∀ (n : Nat) (x4 : Int32) (x5 : Int32) (H : Heap) (locs : List Loc) (ls : Array Slot), LX7_in_22  r x1 x2 x3 post n x4 x5 → va_P (dC, dI) vwCl (xw 7 ad (mc ad ci r)) H → va_S A s.heap H locs → lv_has ls 6 [(0, .ref (ad 0)), (1, .int x1), (2, .int x2), (3, .int x3), (4, .int x4), (5, .int x5)] → W p l e rmX7_in s m args below meth c H locs 0 0 (MQ below (va_Ql (fun r9 (u : Unit) => post r9 ) (fun u t => va_P (dC, dI) vwCl (xw 7 ad (mc ad ci r)) t.heap) A) args s 0 0 A) (F0 m 22 ls []) := by
  obtain ⟨hx, hb, -, hr, hlocks, hown, hts, hK⟩ := id C0
  intro n
  induction n with
  | zero =>
    intro x4 x5 H locs ls h
    exact False.elim h
  | succ n ih =>
    intro x4 x5 H locs ls h hP hS hl
    rw [LX7_in_22] at h
    refine lv_iload hx hb dX7_in_22 (lv_at hl 5 rfl) ?_
    refine lv_sipush (v := (200 : Int32)) hx hb dX7_in_24 (by decide) ?_
    refine lv_icmp_ge (tgt := 60) hx hb dX7_in_27 (by decide) (fun c_4 => ?_) (fun c_4 => ?_)
    · have h := h.1 c_4
      refine lv_ldc2 (v := (-2000000005 : Int64)) hx hb hown (hts _ wX7_in_k48) dX7_in_60 ?_
      exact W.lret (v := (-2000000005 : Int64)) hx hb hr (fun t ht hW => ⟨⟨(-2000000005 : Int64), (), rfl, h, x_ht ht hP⟩, hS.F ht⟩) hS.2.2 dX7_in_63
    · have h := h.2 c_4
      refine lv_aload_n hx hb dX7_in_30 rfl (lv_at hl 0 rfl) ?_
      refine lv_iload hx hb dX7_in_31 (lv_at hl 5 rfl) ?_
      refine lv_iload_n hx hb dX7_in_33 rfl (lv_at hl 1 rfl) ?_
      refine lv_iload_n hx hb dX7_in_34 rfl (lv_at hl 2 rfl) ?_
      refine va_calli (va_runV (As := [.int x5, .int x1, .int x2]) (rest := []) ⟨hx, hb, C0.2.2.1, hown, hts⟩ (qX7_liesIn l dC dI ad ci A hAD r x5 x1 x2 _ h) (cwV 3 hts gX7_in_X7_liesIn rfl rfl rfl (by decide +kernel) ⟨Nat.le_of_ble_eq_true rfl, Nat.le_of_ble_eq_true rfl⟩) ⟨xr_blind, xr_recv (r := (RX7, TX7, 9)) hK hP 0 (by decide) me_M rfl, xr_pre hP hK⟩ rfl rfl hl.1 rfl (lv_room (Nat.le_of_ble_eq_true rfl)) dX7_in_35 ⟨Nat.le_of_ble_eq_true rfl, Nat.le_of_ble_eq_true rfl⟩) hS (fun _ _ h => h) (fun _ h => h) (fun r_5 _ t9 H locs ht hvm h hB _ _ hS => ?_)
      refine W.cs (cells' := 0) (slots' := 0) rfl rfl ?_
      have hP := x_th ht hB
      have hP : va_P (dC, dI) vwCl (xw 7 ad (mc ad ci r)) H := hP
      refine lv_if_eq (tgt := 54) hx hb dX7_in_38 (by decide) (fun c_6 => ?_) (fun c_6 => ?_)
      · have h := h.1 c_6
        obtain ⟨x5_7, ex5_7⟩ : ∃ z : Int32, z = x5 + 1 := ⟨_, rfl⟩
        have h := h x5_7 ex5_7
        refine lv_iinc (v := x5_7) (lv' := [(5, .int x5_7), (0, .ref (ad 0)), (1, .int x1), (2, .int x2), (3, .int x3), (4, .int x4)]) hx hb dX7_in_54 hl (k := 5) rfl (by rw [ex5_7]; rfl) (by decide) rfl (fun ls hl => ?_)
        refine lv_goto (tgt := 22) hx hb dX7_in_57 (by decide) ?_
        exact ih x4 x5_7 _ _ _ h hP hS (lv_sub hl [1, 2, 3, 4, 5, 0] rfl)
      · have h := h.2 c_6
        refine lv_iload hx hb dX7_in_41 (lv_at hl 4 rfl) ?_
        refine lv_iload_n hx hb dX7_in_43 rfl (lv_at hl 3 rfl) ?_
        refine lv_icmp_ne (tgt := 51) hx hb dX7_in_44 (by decide) (fun c_8 => ?_) (fun c_8 => ?_)
        · have h := h.2 c_8
          obtain ⟨x4_9, ex4_9⟩ : ∃ z : Int32, z = x4 + 1 := ⟨_, rfl⟩
          have h := h x4_9 ex4_9
          refine lv_iinc (v := x4_9) (lv' := [(4, .int x4_9), (0, .ref (ad 0)), (1, .int x1), (2, .int x2), (3, .int x3), (5, .int x5)]) hx hb dX7_in_51 hl (k := 4) rfl (by rw [ex4_9]; rfl) (by decide) rfl (fun ls hl => ?_)
          obtain ⟨x5_10, ex5_10⟩ : ∃ z : Int32, z = x5 + 1 := ⟨_, rfl⟩
          have h := h x5_10 ex5_10
          refine lv_iinc (v := x5_10) (lv' := [(5, .int x5_10), (4, .int x4_9), (0, .ref (ad 0)), (1, .int x1), (2, .int x2), (3, .int x3)]) hx hb dX7_in_54 hl (k := 5) rfl (by rw [ex5_10]; rfl) (by decide) rfl (fun ls hl => ?_)
          refine lv_goto (tgt := 22) hx hb dX7_in_57 (by decide) ?_
          exact ih x4_9 x5_10 _ _ _ h hP hS (lv_sub hl [2, 3, 4, 5, 1, 0] rfl)
        · have h := h.1 c_8
          refine lv_iload hx hb dX7_in_47 (lv_at hl 5 rfl) ?_
          refine lv_i2l hx hb dX7_in_49 rfl ?_
          exact W.lret (v := (x5.toInt64)) hx hb hr (fun t ht hW => ⟨⟨(x5.toInt64), (), rfl, h, x_ht ht hP⟩, hS.F ht⟩) hS.2.2 dX7_in_50
def PX7_in  (r : MmV) (x1 : Int32) (x2 : Int32) (x3 : Int32) (post : Int64 → Prop) : Prop :=
  (PX7_isSlot x1 x2 (fun (r_1 : Int32) => ((r_1 = 0 → post (-2000000001 : Int64)) ∧ (¬ r_1 = 0 → ((0 ≤ x3 → (∃ n_11 : Nat, LX7_in_22  r x1 x2 x3  post n_11 (0 : Int32) (0 : Int32))) ∧ (¬ 0 ≤ x3 → post (-2000000001 : Int64)))))))
set_option maxHeartbeats 4000000 in
set_option maxRecDepth 100000 in
theorem qX7_in (l : Launch) (dC : Nat → ClassId) (dI : Nat → Nat → Nat) (ad : Nat → Nat) (ci : Nat → ClassId) (A : Nat → Prop) (hAD : xw_D 7 ad A) (r : MmV) (x1 : Int32) (x2 : Int32) (x3 : Int32) (post : Int64 → Prop) (h : PX7_in r x1 x2 x3 post) : Met l yX7_in wsX7_in rmX7_in (va_Pc [.ref (ad 0), .int x1, .int x2, .int x3] (fun U => va_P (dC, dI) vwCl (xw 7 ad (mc ad ci r)) U.heap ∧ va_K (dC, dI) vwCl (xT ci) U)) (va_Ql (fun r9 (u : Unit) => post r9 ) (fun u t => va_P (dC, dI) vwCl (xw 7 ad (mc ad ci r)) t.heap) A) 0 0 A := by
  refine Met.ofW (cc := cX7_in) (maxL := 6) (ret := (some .long)) (by decide) rfl ?_
  intro p e s m args below meth c s₁ B hml hv
  obtain ⟨eargs, hP, hK⟩ := hv
  have C0 : xC p s m args meth c cX7_in 6 (some .long) RX7 wsX7_in (dC, dI) (xT ci) := ⟨B.exec, B.bytes, hml, B.returns, B.notSynchronized, findClass_of_methodNamed B.named, atoms_spec (ws := wsX7_in) B.pre, hK⟩
  obtain ⟨hx, hb, -, hr, hlocks, hown, hts, -⟩ := id C0
  have hS : va_S A s.heap s.heap [] := va_S.rf
  have hl := lv_entry ([.ref (ad 0), .int x1, .int x2, .int x3]) (n := 6) (Nat.le_of_ble_eq_true rfl)
  have ef : entryFrame m args 6 = entryFrame m ([.ref (ad 0), .int x1, .int x2, .int x3] : List Value).toArray 6 := by rw [eargs]
  rw [ef, lg_entry_eq]
  generalize (lg_sl ([.ref (ad 0), .int x1, .int x2, .int x3]) ++ List.replicate (6 - (lg_sl ([.ref (ad 0), .int x1, .int x2, .int x3])).length) Slot.unset).toArray = ls at hl ⊢
  have hl : lv_has ls 6 [(0, .ref (ad 0)), (1, .int x1), (2, .int x2), (3, .int x3)] := hl
  have hP : va_P (dC, dI) vwCl (xw 7 ad (mc ad ci r)) s.heap := hP
  unfold PX7_in at h
  refine lv_iload_n hx hb dX7_in_0 rfl (lv_at hl 1 rfl) ?_
  refine lv_iload_n hx hb dX7_in_1 rfl (lv_at hl 2 rfl) ?_
  refine va_calli (va_runS (As := [.int x1, .int x2]) (rest := []) ⟨hx, hb, C0.2.2.1, hown, hts⟩ (qX7_isSlot l dC dI 7 ad (mc ad ci r) (xT ci) A x1 x2 _ h) (va_cwS 2 hts gX7_in_X7_isSlot rfl rfl rfl (by decide +kernel) ⟨Nat.le_of_ble_eq_true rfl, Nat.le_of_ble_eq_true rfl⟩) ⟨xr_blind, xr_pre hP hK⟩ rfl rfl hl.1 rfl (lv_room (Nat.le_of_ble_eq_true rfl)) dX7_in_2 ⟨Nat.le_of_ble_eq_true rfl, Nat.le_of_ble_eq_true rfl⟩) hS (fun _ _ h => h) (fun _ h => h) (fun r_1 _ t9 H locs ht hvm h hB _ _ hS => ?_)
  refine W.cs (cells' := 0) (slots' := 0) rfl rfl ?_
  have hP := x_th ht hB
  have hP : va_P (dC, dI) vwCl (xw 7 ad (mc ad ci r)) H := hP
  refine lv_if_eq (tgt := 12) hx hb dX7_in_5 (by decide) (fun c_2 => ?_) (fun c_2 => ?_)
  · have h := h.1 c_2
    refine lv_ldc2 (v := (-2000000001 : Int64)) hx hb hown (hts _ wX7_in_k73) dX7_in_12 ?_
    exact W.lret (v := (-2000000001 : Int64)) hx hb hr (fun t ht hW => ⟨⟨(-2000000001 : Int64), (), rfl, h, x_ht ht hP⟩, hS.F ht⟩) hS.2.2 dX7_in_15
  · have h := h.2 c_2
    refine lv_iload_n hx hb dX7_in_8 rfl (lv_at hl 3 rfl) ?_
    refine lv_if_ge (tgt := 16) hx hb dX7_in_9 (by decide) (fun c_3 => ?_) (fun c_3 => ?_)
    · have h := h.1 c_3
      refine lv_iconst (v := (0 : Int32)) hx hb dX7_in_16 (by decide) ?_
      refine lv_istore (lv' := [(4, .int (0 : Int32)), (0, .ref (ad 0)), (1, .int x1), (2, .int x2), (3, .int x3)]) hx hb dX7_in_17 hl (by decide) rfl (fun ls hl => ?_)
      refine lv_iconst (v := (0 : Int32)) hx hb dX7_in_19 (by decide) ?_
      refine lv_istore (lv' := [(5, .int (0 : Int32)), (4, .int (0 : Int32)), (0, .ref (ad 0)), (1, .int x1), (2, .int x2), (3, .int x3)]) hx hb dX7_in_20 hl (by decide) rfl (fun ls hl => ?_)
      obtain ⟨n_11, h⟩ := h
      exact kX7_in_22 l dC dI ad ci A hAD r   x1 x2 x3  post C0  n_11 (0 : Int32) (0 : Int32) _ _ _ h hP hS (lv_sub hl [2, 3, 4, 5, 1, 0] rfl)
    · have h := h.2 c_3
      refine lv_ldc2 (v := (-2000000001 : Int64)) hx hb hown (hts _ wX7_in_k73) dX7_in_12 ?_
      exact W.lret (v := (-2000000001 : Int64)) hx hb hr (fun t ht hW => ⟨⟨(-2000000001 : Int64), (), rfl, h, x_ht ht hP⟩, hS.F ht⟩) hS.2.2 dX7_in_15
abbrev rmX7_now : Room := { frames := 0, cells := 0, slots := 0, locals := 0 }
theorem wX7_now_c7 : ∀ w ∈ u_ws RX7 TX7 9, w ∈ wsX7_now := by decide +kernel
theorem wX7_now_f7 : Cond.fieldLink RX7 7 "DueWheelsModel" "s" "[J" ∈ wsX7_now := by decide +kernel
def PX7_now  (r : MmV)  (post : Int64 → Prop) : Prop :=
  post (m_s r 3700)
set_option maxHeartbeats 4000000 in
set_option maxRecDepth 100000 in
theorem qX7_now (l : Launch) (dC : Nat → ClassId) (dI : Nat → Nat → Nat) (ad : Nat → Nat) (ci : Nat → ClassId) (A : Nat → Prop) (hAD : xw_D 7 ad A) (r : MmV)  (post : Int64 → Prop) (h : PX7_now r post) : Met l yX7_now wsX7_now rmX7_now (va_Pc [.ref (ad 0)] (fun U => va_P (dC, dI) vwCl (xw 7 ad (mc ad ci r)) U.heap ∧ va_K (dC, dI) vwCl (xT ci) U)) (va_Ql (fun r9 (u : Unit) => post r9 ) (fun u t => va_P (dC, dI) vwCl (xw 7 ad (mc ad ci r)) t.heap) A) 0 0 A := by
  refine Met.ofW (cc := cX7_now) (maxL := 1) (ret := (some .long)) (by decide) rfl ?_
  intro p e s m args below meth c s₁ B hml hv
  obtain ⟨eargs, hP, hK⟩ := hv
  have C0 : xC p s m args meth c cX7_now 1 (some .long) RX7 wsX7_now (dC, dI) (xT ci) := ⟨B.exec, B.bytes, hml, B.returns, B.notSynchronized, findClass_of_methodNamed B.named, atoms_spec (ws := wsX7_now) B.pre, hK⟩
  obtain ⟨hx, hb, -, hr, hlocks, hown, hts, -⟩ := id C0
  have hS : va_S A s.heap s.heap [] := va_S.rf
  have hl := lv_entry ([.ref (ad 0)]) (n := 1) (Nat.le_of_ble_eq_true rfl)
  have ef : entryFrame m args 1 = entryFrame m ([.ref (ad 0)] : List Value).toArray 1 := by rw [eargs]
  rw [ef, lg_entry_eq]
  generalize (lg_sl ([.ref (ad 0)]) ++ List.replicate (1 - (lg_sl ([.ref (ad 0)])).length) Slot.unset).toArray = ls at hl ⊢
  have hl : lv_has ls 1 [(0, .ref (ad 0))] := hl
  have hP : va_P (dC, dI) vwCl (xw 7 ad (mc ad ci r)) s.heap := hP
  unfold PX7_now at h
  refine lv_aload_n hx hb dX7_now_0 rfl (lv_at hl 0 rfl) ?_
  refine xr_get (D := (dC, dI)) (C := RX7) (T := TX7) (N := 9) (v := .ref (ad 1)) hx hb hts wX7_now_c7 hown hK hP 0 (by decide) me_M rfl 0 (by decide) wX7_now_f7 rfl rfl dX7_now_1 ?_
  refine lv_sipush (v := (3700 : Int32)) hx hb dX7_now_4 (by decide) ?_
  refine xr_lald (k := 3700) hx hb hK hP 1 1 (by decide) me_s rfl rfl (x_in _ _ (by decide)) dX7_now_7 ?_
  exact W.lret (v := (m_s r 3700)) hx hb hr (fun t ht hW => ⟨⟨(m_s r 3700), (), rfl, h, x_ht ht hP⟩, hS.F ht⟩) hS.2.2 dX7_now_8
abbrev rmX7_manyOf : Room := { frames := 3, cells := 0, slots := 0, locals := 67 }
def LX7_manyOf_4  (r : MmV) (x1 : Int32)  (post : Int32 → Prop) : Nat → Int32 → Int32 → Prop
  | 0, _, _ => False
  | n + 1, x2, x3 => (((200 : Int32) ≤ x3 → post x2) ∧ (¬ (200 : Int32) ≤ x3 → ((x1 = 0 → (PX7_isDue r x3 (fun (r_23 : Int32) => ((r_23 = 0 → ∀ x2_25 : Int32, x2_25 = (x2 + (0 : Int32)) → ∀ x3_26 : Int32, x3_26 = x3 + 1 → LX7_manyOf_4  r x1 post n x2_25 x3_26) ∧ (¬ r_23 = 0 → ∀ x2_27 : Int32, x2_27 = (x2 + (1 : Int32)) → ∀ x3_28 : Int32, x3_28 = x3 + 1 → LX7_manyOf_4  r x1 post n x2_27 x3_28))))) ∧ (¬ x1 = 0 → ((x1 = (1 : Int32) → (PX7_hasTick r x3 (fun (r_17 : Int32) => ((r_17 = 0 → ∀ x2_19 : Int32, x2_19 = (x2 + (0 : Int32)) → ∀ x3_20 : Int32, x3_20 = x3 + 1 → LX7_manyOf_4  r x1 post n x2_19 x3_20) ∧ (¬ r_17 = 0 → ∀ x2_21 : Int32, x2_21 = (x2 + (1 : Int32)) → ∀ x3_22 : Int32, x3_22 = x3 + 1 → LX7_manyOf_4  r x1 post n x2_21 x3_22))))) ∧ (¬ x1 = (1 : Int32) → ((x1 = (2 : Int32) → (PX7_waits r x3 (fun (r_11 : Int32) => ((r_11 = 0 → ∀ x2_13 : Int32, x2_13 = (x2 + (0 : Int32)) → ∀ x3_14 : Int32, x3_14 = x3 + 1 → LX7_manyOf_4  r x1 post n x2_13 x3_14) ∧ (¬ r_11 = 0 → ∀ x2_15 : Int32, x2_15 = (x2 + (1 : Int32)) → ∀ x3_16 : Int32, x3_16 = x3 + 1 → LX7_manyOf_4  r x1 post n x2_15 x3_16))))) ∧ (¬ x1 = (2 : Int32) → (PX7_rests r x3 (fun (r_5 : Int32) => ((r_5 = 0 → ∀ x2_7 : Int32, x2_7 = (x2 + (0 : Int32)) → ∀ x3_8 : Int32, x3_8 = x3 + 1 → LX7_manyOf_4  r x1 post n x2_7 x3_8) ∧ (¬ r_5 = 0 → ∀ x2_9 : Int32, x2_9 = (x2 + (1 : Int32)) → ∀ x3_10 : Int32, x3_10 = x3 + 1 → LX7_manyOf_4  r x1 post n x2_9 x3_10))))))))))))
set_option maxHeartbeats 4000000 in
set_option maxRecDepth 100000 in
theorem kX7_manyOf_4 {p : Program} {e : Env} {s : State} {m : MethodId} {args : Array Value} {below : List Frame} {meth : Method} {c : Code} (l : Launch) (dC : Nat → ClassId) (dI : Nat → Nat → Nat) (ad : Nat → Nat) (ci : Nat → ClassId) (A : Nat → Prop) (hAD : xw_D 7 ad A) (r : MmV) (x1 : Int32)  (post : Int32 → Prop) (C0 : xC p s m args meth c cX7_manyOf 5 (some .int) RX7 wsX7_manyOf (dC, dI) (xT ci)) : ∀ (n : Nat) (x2 : Int32) (x3 : Int32) (H : Heap) (locs : List Loc) (ls : Array Slot), LX7_manyOf_4  r x1 post n x2 x3 → va_P (dC, dI) vwCl (xw 7 ad (mc ad ci r)) H → va_S A s.heap H locs → lv_has ls 5 [(0, .ref (ad 0)), (1, .int x1), (2, .int x2), (3, .int x3)] → W p l e rmX7_manyOf s m args below meth c H locs 0 0 (MQ below (va_Qi (fun r9 (u : Unit) => post r9 ) (fun u t => va_P (dC, dI) vwCl (xw 7 ad (mc ad ci r)) t.heap) A) args s 0 0 A) (F0 m 4 ls []) := by
  obtain ⟨hx, hb, -, hr, hlocks, hown, hts, hK⟩ := id C0
  intro n
  induction n with
  | zero =>
    intro x2 x3 H locs ls h
    exact False.elim h
  | succ n ih =>
    intro x2 x3 H locs ls h hP hS hl
    rw [LX7_manyOf_4] at h
    refine lv_iload_n hx hb dX7_manyOf_4 rfl (lv_at hl 3 rfl) ?_
    refine lv_sipush (v := (200 : Int32)) hx hb dX7_manyOf_5 (by decide) ?_
    refine lv_icmp_ge (tgt := 75) hx hb dX7_manyOf_8 (by decide) (fun c_1 => ?_) (fun c_1 => ?_)
    · have h := h.1 c_1
      refine lv_iload_n hx hb dX7_manyOf_75 rfl (lv_at hl 2 rfl) ?_
      exact W.iret (v := x2) hx hb hr (fun t ht hW => ⟨⟨x2, (), rfl, h, x_ht ht hP⟩, hS.F ht⟩) hS.2.2 dX7_manyOf_76
    · have h := h.2 c_1
      refine lv_iload_n hx hb dX7_manyOf_11 rfl (lv_at hl 1 rfl) ?_
      refine lv_if_ne (tgt := 23) hx hb dX7_manyOf_12 (by decide) (fun c_2 => ?_) (fun c_2 => ?_)
      · have h := h.2 c_2
        refine lv_iload_n hx hb dX7_manyOf_23 rfl (lv_at hl 1 rfl) ?_
        refine lv_iconst (v := (1 : Int32)) hx hb dX7_manyOf_24 (by decide) ?_
        refine lv_icmp_ne (tgt := 36) hx hb dX7_manyOf_25 (by decide) (fun c_3 => ?_) (fun c_3 => ?_)
        · have h := h.2 c_3
          refine lv_iload_n hx hb dX7_manyOf_36 rfl (lv_at hl 1 rfl) ?_
          refine lv_iconst (v := (2 : Int32)) hx hb dX7_manyOf_37 (by decide) ?_
          refine lv_icmp_ne (tgt := 49) hx hb dX7_manyOf_38 (by decide) (fun c_4 => ?_) (fun c_4 => ?_)
          · have h := h.2 c_4
            refine lv_aload_n hx hb dX7_manyOf_49 rfl (lv_at hl 0 rfl) ?_
            refine lv_iload_n hx hb dX7_manyOf_50 rfl (lv_at hl 3 rfl) ?_
            refine va_calli (va_runV (As := [.int x3]) (rest := []) ⟨hx, hb, C0.2.2.1, hown, hts⟩ (qX7_rests l dC dI ad ci A hAD r x3 _ h) (cwV 1 hts gX7_manyOf_X7_rests rfl rfl rfl (by decide +kernel) ⟨Nat.le_of_ble_eq_true rfl, Nat.le_of_ble_eq_true rfl⟩) ⟨xr_blind, xr_recv (r := (RX7, TX7, 9)) hK hP 0 (by decide) me_M rfl, xr_pre hP hK⟩ rfl rfl hl.1 rfl (lv_room (Nat.le_of_ble_eq_true rfl)) dX7_manyOf_51 ⟨Nat.le_of_ble_eq_true rfl, Nat.le_of_ble_eq_true rfl⟩) hS (fun _ _ h => h) (fun _ h => h) (fun r_5 _ t9 H locs ht hvm h hB _ _ hS => ?_)
            refine W.cs (cells' := 0) (slots' := 0) rfl rfl ?_
            have hP := x_th ht hB
            have hP : va_P (dC, dI) vwCl (xw 7 ad (mc ad ci r)) H := hP
            refine lv_istore (lv' := [(4, .int r_5), (0, .ref (ad 0)), (1, .int x1), (2, .int x2), (3, .int x3)]) hx hb dX7_manyOf_54 hl (by decide) rfl (fun ls hl => ?_)
            refine lv_iload_n hx hb dX7_manyOf_56 rfl (lv_at hl 3 rfl) ?_
            refine lv_iload hx hb dX7_manyOf_57 (lv_at hl 0 rfl) ?_
            refine lv_if_eq (tgt := 66) hx hb dX7_manyOf_59 (by decide) (fun c_6 => ?_) (fun c_6 => ?_)
            · have h := h.1 c_6
              refine lv_iconst (v := (0 : Int32)) hx hb dX7_manyOf_66 (by decide) ?_
              refine lv_iadd hx hb dX7_manyOf_67 ?_
              refine lv_topi (fun x2_7 ex2_7 => ?_)
              have h := h x2_7 ex2_7
              refine lv_istore_n (lv' := [(2, .int x2_7), (4, .int r_5), (0, .ref (ad 0)), (1, .int x1), (3, .int x3)]) hx hb dX7_manyOf_68 rfl hl (by decide) rfl (fun ls hl => ?_)
              obtain ⟨x3_8, ex3_8⟩ : ∃ z : Int32, z = x3 + 1 := ⟨_, rfl⟩
              have h := h x3_8 ex3_8
              refine lv_iinc (v := x3_8) (lv' := [(3, .int x3_8), (2, .int x2_7), (4, .int r_5), (0, .ref (ad 0)), (1, .int x1)]) hx hb dX7_manyOf_69 hl (k := 4) rfl (by rw [ex3_8]; rfl) (by decide) rfl (fun ls hl => ?_)
              refine lv_goto (tgt := 4) hx hb dX7_manyOf_72 (by decide) ?_
              exact ih x2_7 x3_8 _ _ _ h hP hS (lv_sub hl [3, 4, 1, 0] rfl)
            · have h := h.2 c_6
              refine lv_iconst (v := (1 : Int32)) hx hb dX7_manyOf_62 (by decide) ?_
              refine lv_goto (tgt := 67) hx hb dX7_manyOf_63 (by decide) ?_
              refine lv_iadd hx hb dX7_manyOf_67 ?_
              refine lv_topi (fun x2_9 ex2_9 => ?_)
              have h := h x2_9 ex2_9
              refine lv_istore_n (lv' := [(2, .int x2_9), (4, .int r_5), (0, .ref (ad 0)), (1, .int x1), (3, .int x3)]) hx hb dX7_manyOf_68 rfl hl (by decide) rfl (fun ls hl => ?_)
              obtain ⟨x3_10, ex3_10⟩ : ∃ z : Int32, z = x3 + 1 := ⟨_, rfl⟩
              have h := h x3_10 ex3_10
              refine lv_iinc (v := x3_10) (lv' := [(3, .int x3_10), (2, .int x2_9), (4, .int r_5), (0, .ref (ad 0)), (1, .int x1)]) hx hb dX7_manyOf_69 hl (k := 4) rfl (by rw [ex3_10]; rfl) (by decide) rfl (fun ls hl => ?_)
              refine lv_goto (tgt := 4) hx hb dX7_manyOf_72 (by decide) ?_
              exact ih x2_9 x3_10 _ _ _ h hP hS (lv_sub hl [3, 4, 1, 0] rfl)
          · have h := h.1 c_4
            refine lv_aload_n hx hb dX7_manyOf_41 rfl (lv_at hl 0 rfl) ?_
            refine lv_iload_n hx hb dX7_manyOf_42 rfl (lv_at hl 3 rfl) ?_
            refine va_calli (va_runV (As := [.int x3]) (rest := []) ⟨hx, hb, C0.2.2.1, hown, hts⟩ (qX7_waits l dC dI ad ci A hAD r x3 _ h) (cwV 1 hts gX7_manyOf_X7_waits rfl rfl rfl (by decide +kernel) ⟨Nat.le_of_ble_eq_true rfl, Nat.le_of_ble_eq_true rfl⟩) ⟨xr_blind, xr_recv (r := (RX7, TX7, 9)) hK hP 0 (by decide) me_M rfl, xr_pre hP hK⟩ rfl rfl hl.1 rfl (lv_room (Nat.le_of_ble_eq_true rfl)) dX7_manyOf_43 ⟨Nat.le_of_ble_eq_true rfl, Nat.le_of_ble_eq_true rfl⟩) hS (fun _ _ h => h) (fun _ h => h) (fun r_11 _ t9 H locs ht hvm h hB _ _ hS => ?_)
            refine W.cs (cells' := 0) (slots' := 0) rfl rfl ?_
            have hP := x_th ht hB
            have hP : va_P (dC, dI) vwCl (xw 7 ad (mc ad ci r)) H := hP
            refine lv_goto (tgt := 54) hx hb dX7_manyOf_46 (by decide) ?_
            refine lv_istore (lv' := [(4, .int r_11), (0, .ref (ad 0)), (1, .int x1), (2, .int x2), (3, .int x3)]) hx hb dX7_manyOf_54 hl (by decide) rfl (fun ls hl => ?_)
            refine lv_iload_n hx hb dX7_manyOf_56 rfl (lv_at hl 3 rfl) ?_
            refine lv_iload hx hb dX7_manyOf_57 (lv_at hl 0 rfl) ?_
            refine lv_if_eq (tgt := 66) hx hb dX7_manyOf_59 (by decide) (fun c_12 => ?_) (fun c_12 => ?_)
            · have h := h.1 c_12
              refine lv_iconst (v := (0 : Int32)) hx hb dX7_manyOf_66 (by decide) ?_
              refine lv_iadd hx hb dX7_manyOf_67 ?_
              refine lv_topi (fun x2_13 ex2_13 => ?_)
              have h := h x2_13 ex2_13
              refine lv_istore_n (lv' := [(2, .int x2_13), (4, .int r_11), (0, .ref (ad 0)), (1, .int x1), (3, .int x3)]) hx hb dX7_manyOf_68 rfl hl (by decide) rfl (fun ls hl => ?_)
              obtain ⟨x3_14, ex3_14⟩ : ∃ z : Int32, z = x3 + 1 := ⟨_, rfl⟩
              have h := h x3_14 ex3_14
              refine lv_iinc (v := x3_14) (lv' := [(3, .int x3_14), (2, .int x2_13), (4, .int r_11), (0, .ref (ad 0)), (1, .int x1)]) hx hb dX7_manyOf_69 hl (k := 4) rfl (by rw [ex3_14]; rfl) (by decide) rfl (fun ls hl => ?_)
              refine lv_goto (tgt := 4) hx hb dX7_manyOf_72 (by decide) ?_
              exact ih x2_13 x3_14 _ _ _ h hP hS (lv_sub hl [3, 4, 1, 0] rfl)
            · have h := h.2 c_12
              refine lv_iconst (v := (1 : Int32)) hx hb dX7_manyOf_62 (by decide) ?_
              refine lv_goto (tgt := 67) hx hb dX7_manyOf_63 (by decide) ?_
              refine lv_iadd hx hb dX7_manyOf_67 ?_
              refine lv_topi (fun x2_15 ex2_15 => ?_)
              have h := h x2_15 ex2_15
              refine lv_istore_n (lv' := [(2, .int x2_15), (4, .int r_11), (0, .ref (ad 0)), (1, .int x1), (3, .int x3)]) hx hb dX7_manyOf_68 rfl hl (by decide) rfl (fun ls hl => ?_)
              obtain ⟨x3_16, ex3_16⟩ : ∃ z : Int32, z = x3 + 1 := ⟨_, rfl⟩
              have h := h x3_16 ex3_16
              refine lv_iinc (v := x3_16) (lv' := [(3, .int x3_16), (2, .int x2_15), (4, .int r_11), (0, .ref (ad 0)), (1, .int x1)]) hx hb dX7_manyOf_69 hl (k := 4) rfl (by rw [ex3_16]; rfl) (by decide) rfl (fun ls hl => ?_)
              refine lv_goto (tgt := 4) hx hb dX7_manyOf_72 (by decide) ?_
              exact ih x2_15 x3_16 _ _ _ h hP hS (lv_sub hl [3, 4, 1, 0] rfl)
        · have h := h.1 c_3
          refine lv_aload_n hx hb dX7_manyOf_28 rfl (lv_at hl 0 rfl) ?_
          refine lv_iload_n hx hb dX7_manyOf_29 rfl (lv_at hl 3 rfl) ?_
          refine va_calli (va_runV (As := [.int x3]) (rest := []) ⟨hx, hb, C0.2.2.1, hown, hts⟩ (qX7_hasTick l dC dI ad ci A hAD r x3 _ h) (cwV 1 hts gX7_manyOf_X7_hasTick rfl rfl rfl (by decide +kernel) ⟨Nat.le_of_ble_eq_true rfl, Nat.le_of_ble_eq_true rfl⟩) ⟨xr_blind, xr_recv (r := (RX7, TX7, 9)) hK hP 0 (by decide) me_M rfl, xr_pre hP hK⟩ rfl rfl hl.1 rfl (lv_room (Nat.le_of_ble_eq_true rfl)) dX7_manyOf_30 ⟨Nat.le_of_ble_eq_true rfl, Nat.le_of_ble_eq_true rfl⟩) hS (fun _ _ h => h) (fun _ h => h) (fun r_17 _ t9 H locs ht hvm h hB _ _ hS => ?_)
          refine W.cs (cells' := 0) (slots' := 0) rfl rfl ?_
          have hP := x_th ht hB
          have hP : va_P (dC, dI) vwCl (xw 7 ad (mc ad ci r)) H := hP
          refine lv_goto (tgt := 54) hx hb dX7_manyOf_33 (by decide) ?_
          refine lv_istore (lv' := [(4, .int r_17), (0, .ref (ad 0)), (1, .int x1), (2, .int x2), (3, .int x3)]) hx hb dX7_manyOf_54 hl (by decide) rfl (fun ls hl => ?_)
          refine lv_iload_n hx hb dX7_manyOf_56 rfl (lv_at hl 3 rfl) ?_
          refine lv_iload hx hb dX7_manyOf_57 (lv_at hl 0 rfl) ?_
          refine lv_if_eq (tgt := 66) hx hb dX7_manyOf_59 (by decide) (fun c_18 => ?_) (fun c_18 => ?_)
          · have h := h.1 c_18
            refine lv_iconst (v := (0 : Int32)) hx hb dX7_manyOf_66 (by decide) ?_
            refine lv_iadd hx hb dX7_manyOf_67 ?_
            refine lv_topi (fun x2_19 ex2_19 => ?_)
            have h := h x2_19 ex2_19
            refine lv_istore_n (lv' := [(2, .int x2_19), (4, .int r_17), (0, .ref (ad 0)), (1, .int x1), (3, .int x3)]) hx hb dX7_manyOf_68 rfl hl (by decide) rfl (fun ls hl => ?_)
            obtain ⟨x3_20, ex3_20⟩ : ∃ z : Int32, z = x3 + 1 := ⟨_, rfl⟩
            have h := h x3_20 ex3_20
            refine lv_iinc (v := x3_20) (lv' := [(3, .int x3_20), (2, .int x2_19), (4, .int r_17), (0, .ref (ad 0)), (1, .int x1)]) hx hb dX7_manyOf_69 hl (k := 4) rfl (by rw [ex3_20]; rfl) (by decide) rfl (fun ls hl => ?_)
            refine lv_goto (tgt := 4) hx hb dX7_manyOf_72 (by decide) ?_
            exact ih x2_19 x3_20 _ _ _ h hP hS (lv_sub hl [3, 4, 1, 0] rfl)
          · have h := h.2 c_18
            refine lv_iconst (v := (1 : Int32)) hx hb dX7_manyOf_62 (by decide) ?_
            refine lv_goto (tgt := 67) hx hb dX7_manyOf_63 (by decide) ?_
            refine lv_iadd hx hb dX7_manyOf_67 ?_
            refine lv_topi (fun x2_21 ex2_21 => ?_)
            have h := h x2_21 ex2_21
            refine lv_istore_n (lv' := [(2, .int x2_21), (4, .int r_17), (0, .ref (ad 0)), (1, .int x1), (3, .int x3)]) hx hb dX7_manyOf_68 rfl hl (by decide) rfl (fun ls hl => ?_)
            obtain ⟨x3_22, ex3_22⟩ : ∃ z : Int32, z = x3 + 1 := ⟨_, rfl⟩
            have h := h x3_22 ex3_22
            refine lv_iinc (v := x3_22) (lv' := [(3, .int x3_22), (2, .int x2_21), (4, .int r_17), (0, .ref (ad 0)), (1, .int x1)]) hx hb dX7_manyOf_69 hl (k := 4) rfl (by rw [ex3_22]; rfl) (by decide) rfl (fun ls hl => ?_)
            refine lv_goto (tgt := 4) hx hb dX7_manyOf_72 (by decide) ?_
            exact ih x2_21 x3_22 _ _ _ h hP hS (lv_sub hl [3, 4, 1, 0] rfl)
      · have h := h.1 c_2
        refine lv_aload_n hx hb dX7_manyOf_15 rfl (lv_at hl 0 rfl) ?_
        refine lv_iload_n hx hb dX7_manyOf_16 rfl (lv_at hl 3 rfl) ?_
        refine va_calli (va_runV (As := [.int x3]) (rest := []) ⟨hx, hb, C0.2.2.1, hown, hts⟩ (qX7_isDue l dC dI ad ci A hAD r x3 _ h) (cwV 1 hts gX7_manyOf_X7_isDue rfl rfl rfl (by decide +kernel) ⟨Nat.le_of_ble_eq_true rfl, Nat.le_of_ble_eq_true rfl⟩) ⟨xr_blind, xr_recv (r := (RX7, TX7, 9)) hK hP 0 (by decide) me_M rfl, xr_pre hP hK⟩ rfl rfl hl.1 rfl (lv_room (Nat.le_of_ble_eq_true rfl)) dX7_manyOf_17 ⟨Nat.le_of_ble_eq_true rfl, Nat.le_of_ble_eq_true rfl⟩) hS (fun _ _ h => h) (fun _ h => h) (fun r_23 _ t9 H locs ht hvm h hB _ _ hS => ?_)
        refine W.cs (cells' := 0) (slots' := 0) rfl rfl ?_
        have hP := x_th ht hB
        have hP : va_P (dC, dI) vwCl (xw 7 ad (mc ad ci r)) H := hP
        refine lv_goto (tgt := 54) hx hb dX7_manyOf_20 (by decide) ?_
        refine lv_istore (lv' := [(4, .int r_23), (0, .ref (ad 0)), (1, .int x1), (2, .int x2), (3, .int x3)]) hx hb dX7_manyOf_54 hl (by decide) rfl (fun ls hl => ?_)
        refine lv_iload_n hx hb dX7_manyOf_56 rfl (lv_at hl 3 rfl) ?_
        refine lv_iload hx hb dX7_manyOf_57 (lv_at hl 0 rfl) ?_
        refine lv_if_eq (tgt := 66) hx hb dX7_manyOf_59 (by decide) (fun c_24 => ?_) (fun c_24 => ?_)
        · have h := h.1 c_24
          refine lv_iconst (v := (0 : Int32)) hx hb dX7_manyOf_66 (by decide) ?_
          refine lv_iadd hx hb dX7_manyOf_67 ?_
          refine lv_topi (fun x2_25 ex2_25 => ?_)
          have h := h x2_25 ex2_25
          refine lv_istore_n (lv' := [(2, .int x2_25), (4, .int r_23), (0, .ref (ad 0)), (1, .int x1), (3, .int x3)]) hx hb dX7_manyOf_68 rfl hl (by decide) rfl (fun ls hl => ?_)
          obtain ⟨x3_26, ex3_26⟩ : ∃ z : Int32, z = x3 + 1 := ⟨_, rfl⟩
          have h := h x3_26 ex3_26
          refine lv_iinc (v := x3_26) (lv' := [(3, .int x3_26), (2, .int x2_25), (4, .int r_23), (0, .ref (ad 0)), (1, .int x1)]) hx hb dX7_manyOf_69 hl (k := 4) rfl (by rw [ex3_26]; rfl) (by decide) rfl (fun ls hl => ?_)
          refine lv_goto (tgt := 4) hx hb dX7_manyOf_72 (by decide) ?_
          exact ih x2_25 x3_26 _ _ _ h hP hS (lv_sub hl [3, 4, 1, 0] rfl)
        · have h := h.2 c_24
          refine lv_iconst (v := (1 : Int32)) hx hb dX7_manyOf_62 (by decide) ?_
          refine lv_goto (tgt := 67) hx hb dX7_manyOf_63 (by decide) ?_
          refine lv_iadd hx hb dX7_manyOf_67 ?_
          refine lv_topi (fun x2_27 ex2_27 => ?_)
          have h := h x2_27 ex2_27
          refine lv_istore_n (lv' := [(2, .int x2_27), (4, .int r_23), (0, .ref (ad 0)), (1, .int x1), (3, .int x3)]) hx hb dX7_manyOf_68 rfl hl (by decide) rfl (fun ls hl => ?_)
          obtain ⟨x3_28, ex3_28⟩ : ∃ z : Int32, z = x3 + 1 := ⟨_, rfl⟩
          have h := h x3_28 ex3_28
          refine lv_iinc (v := x3_28) (lv' := [(3, .int x3_28), (2, .int x2_27), (4, .int r_23), (0, .ref (ad 0)), (1, .int x1)]) hx hb dX7_manyOf_69 hl (k := 4) rfl (by rw [ex3_28]; rfl) (by decide) rfl (fun ls hl => ?_)
          refine lv_goto (tgt := 4) hx hb dX7_manyOf_72 (by decide) ?_
          exact ih x2_27 x3_28 _ _ _ h hP hS (lv_sub hl [3, 4, 1, 0] rfl)
def PX7_manyOf  (r : MmV) (x1 : Int32) (post : Int32 → Prop) : Prop :=
  (∃ n_29 : Nat, LX7_manyOf_4  r x1  post n_29 (0 : Int32) (0 : Int32))
set_option maxHeartbeats 4000000 in
set_option maxRecDepth 100000 in
theorem qX7_manyOf (l : Launch) (dC : Nat → ClassId) (dI : Nat → Nat → Nat) (ad : Nat → Nat) (ci : Nat → ClassId) (A : Nat → Prop) (hAD : xw_D 7 ad A) (r : MmV) (x1 : Int32) (post : Int32 → Prop) (h : PX7_manyOf r x1 post) : Met l yX7_manyOf wsX7_manyOf rmX7_manyOf (va_Pc [.ref (ad 0), .int x1] (fun U => va_P (dC, dI) vwCl (xw 7 ad (mc ad ci r)) U.heap ∧ va_K (dC, dI) vwCl (xT ci) U)) (va_Qi (fun r9 (u : Unit) => post r9 ) (fun u t => va_P (dC, dI) vwCl (xw 7 ad (mc ad ci r)) t.heap) A) 0 0 A := by
  refine Met.ofW (cc := cX7_manyOf) (maxL := 5) (ret := (some .int)) (by decide) rfl ?_
  intro p e s m args below meth c s₁ B hml hv
  obtain ⟨eargs, hP, hK⟩ := hv
  have C0 : xC p s m args meth c cX7_manyOf 5 (some .int) RX7 wsX7_manyOf (dC, dI) (xT ci) := ⟨B.exec, B.bytes, hml, B.returns, B.notSynchronized, findClass_of_methodNamed B.named, atoms_spec (ws := wsX7_manyOf) B.pre, hK⟩
  obtain ⟨hx, hb, -, hr, hlocks, hown, hts, -⟩ := id C0
  have hS : va_S A s.heap s.heap [] := va_S.rf
  have hl := lv_entry ([.ref (ad 0), .int x1]) (n := 5) (Nat.le_of_ble_eq_true rfl)
  have ef : entryFrame m args 5 = entryFrame m ([.ref (ad 0), .int x1] : List Value).toArray 5 := by rw [eargs]
  rw [ef, lg_entry_eq]
  generalize (lg_sl ([.ref (ad 0), .int x1]) ++ List.replicate (5 - (lg_sl ([.ref (ad 0), .int x1])).length) Slot.unset).toArray = ls at hl ⊢
  have hl : lv_has ls 5 [(0, .ref (ad 0)), (1, .int x1)] := hl
  have hP : va_P (dC, dI) vwCl (xw 7 ad (mc ad ci r)) s.heap := hP
  unfold PX7_manyOf at h
  refine lv_iconst (v := (0 : Int32)) hx hb dX7_manyOf_0 (by decide) ?_
  refine lv_istore_n (lv' := [(2, .int (0 : Int32)), (0, .ref (ad 0)), (1, .int x1)]) hx hb dX7_manyOf_1 rfl hl (by decide) rfl (fun ls hl => ?_)
  refine lv_iconst (v := (0 : Int32)) hx hb dX7_manyOf_2 (by decide) ?_
  refine lv_istore_n (lv' := [(3, .int (0 : Int32)), (2, .int (0 : Int32)), (0, .ref (ad 0)), (1, .int x1)]) hx hb dX7_manyOf_3 rfl hl (by decide) rfl (fun ls hl => ?_)
  obtain ⟨n_29, h⟩ := h
  exact kX7_manyOf_4 l dC dI ad ci A hAD r   x1  post C0  n_29 (0 : Int32) (0 : Int32) _ _ _ h hP hS (lv_sub hl [2, 3, 1, 0] rfl)
abbrev rmX7_count : Room := { frames := 4, cells := 0, slots := 0, locals := 91 }
theorem wX7_count_c7 : ∀ w ∈ u_ws RX7 TX7 9, w ∈ wsX7_count := by decide +kernel
theorem wX7_count_f7 : Cond.fieldLink RX7 7 "DueWheelsModel" "s" "[J" ∈ wsX7_count := by decide +kernel
theorem wX7_count_f30 : Cond.fieldLink RX7 30 "DueWheelsModel" "kept" "I" ∈ wsX7_count := by decide +kernel
theorem wX7_count_k73 : Cond.constantLong RX7 73 (-2000000001) ∈ wsX7_count := by decide +kernel
def PX7_count  (r : MmV) (x1 : Int32) (post : Int64 → Prop) : Prop :=
  ((x1 = 0 → (PX7_manyOf r x1 (fun (r_2 : Int32) => post (r_2.toInt64)))) ∧ (¬ x1 = 0 → ((x1 = 1 → (PX7_manyOf r x1 (fun (r_4 : Int32) => post (r_4.toInt64)))) ∧ (¬ x1 = 1 → ((x1 = 2 → (PX7_manyOf r x1 (fun (r_6 : Int32) => post (r_6.toInt64)))) ∧ (¬ x1 = 2 → ((x1 = 3 → (PX7_manyOf r x1 (fun (r_8 : Int32) => post (r_8.toInt64)))) ∧ (¬ x1 = 3 → ((x1 = 4 → post (m_s r 3702)) ∧ (¬ x1 = 4 → ((x1 = 5 → post (m_s r 3703)) ∧ (¬ x1 = 5 → ((x1 = 6 → post (m_s r 3704)) ∧ (¬ x1 = 6 → ((x1 = 7 → post ((m_kp r).toInt64)) ∧ (¬ x1 = 7 → post (-2000000001 : Int64)))))))))))))))))
set_option maxHeartbeats 4000000 in
set_option maxRecDepth 100000 in
theorem qX7_count (l : Launch) (dC : Nat → ClassId) (dI : Nat → Nat → Nat) (ad : Nat → Nat) (ci : Nat → ClassId) (A : Nat → Prop) (hAD : xw_D 7 ad A) (r : MmV) (x1 : Int32) (post : Int64 → Prop) (h : PX7_count r x1 post) : Met l yX7_count wsX7_count rmX7_count (va_Pc [.ref (ad 0), .int x1] (fun U => va_P (dC, dI) vwCl (xw 7 ad (mc ad ci r)) U.heap ∧ va_K (dC, dI) vwCl (xT ci) U)) (va_Ql (fun r9 (u : Unit) => post r9 ) (fun u t => va_P (dC, dI) vwCl (xw 7 ad (mc ad ci r)) t.heap) A) 0 0 A := by
  refine Met.ofW (cc := cX7_count) (maxL := 2) (ret := (some .long)) (by decide) rfl ?_
  intro p e s m args below meth c s₁ B hml hv
  obtain ⟨eargs, hP, hK⟩ := hv
  have C0 : xC p s m args meth c cX7_count 2 (some .long) RX7 wsX7_count (dC, dI) (xT ci) := ⟨B.exec, B.bytes, hml, B.returns, B.notSynchronized, findClass_of_methodNamed B.named, atoms_spec (ws := wsX7_count) B.pre, hK⟩
  obtain ⟨hx, hb, -, hr, hlocks, hown, hts, -⟩ := id C0
  have hS : va_S A s.heap s.heap [] := va_S.rf
  have hl := lv_entry ([.ref (ad 0), .int x1]) (n := 2) (Nat.le_of_ble_eq_true rfl)
  have ef : entryFrame m args 2 = entryFrame m ([.ref (ad 0), .int x1] : List Value).toArray 2 := by rw [eargs]
  rw [ef, lg_entry_eq]
  generalize (lg_sl ([.ref (ad 0), .int x1]) ++ List.replicate (2 - (lg_sl ([.ref (ad 0), .int x1])).length) Slot.unset).toArray = ls at hl ⊢
  have hl : lv_has ls 2 [(0, .ref (ad 0)), (1, .int x1)] := hl
  have hP : va_P (dC, dI) vwCl (xw 7 ad (mc ad ci r)) s.heap := hP
  unfold PX7_count at h
  refine lv_iload_n hx hb dX7_count_0 rfl (lv_at hl 1 rfl) ?_
  by_cases c_1 : x1 = 0
  · have h := h.1 c_1
    refine lv_tableIn (tgt := 48) (off := 47) hx hb dX7_count_1 (by rw [c_1]; decide) (by rw [c_1]; decide) (by rw [c_1]; rfl) (by decide) ?_
    refine lv_aload_n hx hb dX7_count_48 rfl (lv_at hl 0 rfl) ?_
    refine lv_iload_n hx hb dX7_count_49 rfl (lv_at hl 1 rfl) ?_
    refine va_calli (va_runV (As := [.int x1]) (rest := []) ⟨hx, hb, C0.2.2.1, hown, hts⟩ (qX7_manyOf l dC dI ad ci A hAD r x1 _ h) (cwV 1 hts gX7_count_X7_manyOf rfl rfl rfl (by decide +kernel) ⟨Nat.le_of_ble_eq_true rfl, Nat.le_of_ble_eq_true rfl⟩) ⟨xr_blind, xr_recv (r := (RX7, TX7, 9)) hK hP 0 (by decide) me_M rfl, xr_pre hP hK⟩ rfl rfl hl.1 rfl (lv_room (Nat.le_of_ble_eq_true rfl)) dX7_count_50 ⟨Nat.le_of_ble_eq_true rfl, Nat.le_of_ble_eq_true rfl⟩) hS (fun _ _ h => h) (fun _ h => h) (fun r_2 _ t9 H locs ht hvm h hB _ _ hS => ?_)
    refine W.cs (cells' := 0) (slots' := 0) rfl rfl ?_
    have hP := x_th ht hB
    have hP : va_P (dC, dI) vwCl (xw 7 ad (mc ad ci r)) H := hP
    refine lv_i2l hx hb dX7_count_53 rfl ?_
    exact W.lret (v := (r_2.toInt64)) hx hb hr (fun t ht hW => ⟨⟨(r_2.toInt64), (), rfl, h, x_ht ht hP⟩, hS.F ht⟩) hS.2.2 dX7_count_54
  have h := h.2 c_1
  by_cases c_3 : x1 = 1
  · have h := h.1 c_3
    refine lv_tableIn (tgt := 48) (off := 47) hx hb dX7_count_1 (by rw [c_3]; decide) (by rw [c_3]; decide) (by rw [c_3]; rfl) (by decide) ?_
    refine lv_aload_n hx hb dX7_count_48 rfl (lv_at hl 0 rfl) ?_
    refine lv_iload_n hx hb dX7_count_49 rfl (lv_at hl 1 rfl) ?_
    refine va_calli (va_runV (As := [.int x1]) (rest := []) ⟨hx, hb, C0.2.2.1, hown, hts⟩ (qX7_manyOf l dC dI ad ci A hAD r x1 _ h) (cwV 1 hts gX7_count_X7_manyOf rfl rfl rfl (by decide +kernel) ⟨Nat.le_of_ble_eq_true rfl, Nat.le_of_ble_eq_true rfl⟩) ⟨xr_blind, xr_recv (r := (RX7, TX7, 9)) hK hP 0 (by decide) me_M rfl, xr_pre hP hK⟩ rfl rfl hl.1 rfl (lv_room (Nat.le_of_ble_eq_true rfl)) dX7_count_50 ⟨Nat.le_of_ble_eq_true rfl, Nat.le_of_ble_eq_true rfl⟩) hS (fun _ _ h => h) (fun _ h => h) (fun r_4 _ t9 H locs ht hvm h hB _ _ hS => ?_)
    refine W.cs (cells' := 0) (slots' := 0) rfl rfl ?_
    have hP := x_th ht hB
    have hP : va_P (dC, dI) vwCl (xw 7 ad (mc ad ci r)) H := hP
    refine lv_i2l hx hb dX7_count_53 rfl ?_
    exact W.lret (v := (r_4.toInt64)) hx hb hr (fun t ht hW => ⟨⟨(r_4.toInt64), (), rfl, h, x_ht ht hP⟩, hS.F ht⟩) hS.2.2 dX7_count_54
  have h := h.2 c_3
  by_cases c_5 : x1 = 2
  · have h := h.1 c_5
    refine lv_tableIn (tgt := 48) (off := 47) hx hb dX7_count_1 (by rw [c_5]; decide) (by rw [c_5]; decide) (by rw [c_5]; rfl) (by decide) ?_
    refine lv_aload_n hx hb dX7_count_48 rfl (lv_at hl 0 rfl) ?_
    refine lv_iload_n hx hb dX7_count_49 rfl (lv_at hl 1 rfl) ?_
    refine va_calli (va_runV (As := [.int x1]) (rest := []) ⟨hx, hb, C0.2.2.1, hown, hts⟩ (qX7_manyOf l dC dI ad ci A hAD r x1 _ h) (cwV 1 hts gX7_count_X7_manyOf rfl rfl rfl (by decide +kernel) ⟨Nat.le_of_ble_eq_true rfl, Nat.le_of_ble_eq_true rfl⟩) ⟨xr_blind, xr_recv (r := (RX7, TX7, 9)) hK hP 0 (by decide) me_M rfl, xr_pre hP hK⟩ rfl rfl hl.1 rfl (lv_room (Nat.le_of_ble_eq_true rfl)) dX7_count_50 ⟨Nat.le_of_ble_eq_true rfl, Nat.le_of_ble_eq_true rfl⟩) hS (fun _ _ h => h) (fun _ h => h) (fun r_6 _ t9 H locs ht hvm h hB _ _ hS => ?_)
    refine W.cs (cells' := 0) (slots' := 0) rfl rfl ?_
    have hP := x_th ht hB
    have hP : va_P (dC, dI) vwCl (xw 7 ad (mc ad ci r)) H := hP
    refine lv_i2l hx hb dX7_count_53 rfl ?_
    exact W.lret (v := (r_6.toInt64)) hx hb hr (fun t ht hW => ⟨⟨(r_6.toInt64), (), rfl, h, x_ht ht hP⟩, hS.F ht⟩) hS.2.2 dX7_count_54
  have h := h.2 c_5
  by_cases c_7 : x1 = 3
  · have h := h.1 c_7
    refine lv_tableIn (tgt := 48) (off := 47) hx hb dX7_count_1 (by rw [c_7]; decide) (by rw [c_7]; decide) (by rw [c_7]; rfl) (by decide) ?_
    refine lv_aload_n hx hb dX7_count_48 rfl (lv_at hl 0 rfl) ?_
    refine lv_iload_n hx hb dX7_count_49 rfl (lv_at hl 1 rfl) ?_
    refine va_calli (va_runV (As := [.int x1]) (rest := []) ⟨hx, hb, C0.2.2.1, hown, hts⟩ (qX7_manyOf l dC dI ad ci A hAD r x1 _ h) (cwV 1 hts gX7_count_X7_manyOf rfl rfl rfl (by decide +kernel) ⟨Nat.le_of_ble_eq_true rfl, Nat.le_of_ble_eq_true rfl⟩) ⟨xr_blind, xr_recv (r := (RX7, TX7, 9)) hK hP 0 (by decide) me_M rfl, xr_pre hP hK⟩ rfl rfl hl.1 rfl (lv_room (Nat.le_of_ble_eq_true rfl)) dX7_count_50 ⟨Nat.le_of_ble_eq_true rfl, Nat.le_of_ble_eq_true rfl⟩) hS (fun _ _ h => h) (fun _ h => h) (fun r_8 _ t9 H locs ht hvm h hB _ _ hS => ?_)
    refine W.cs (cells' := 0) (slots' := 0) rfl rfl ?_
    have hP := x_th ht hB
    have hP : va_P (dC, dI) vwCl (xw 7 ad (mc ad ci r)) H := hP
    refine lv_i2l hx hb dX7_count_53 rfl ?_
    exact W.lret (v := (r_8.toInt64)) hx hb hr (fun t ht hW => ⟨⟨(r_8.toInt64), (), rfl, h, x_ht ht hP⟩, hS.F ht⟩) hS.2.2 dX7_count_54
  have h := h.2 c_7
  by_cases c_9 : x1 = 4
  · have h := h.1 c_9
    refine lv_tableIn (tgt := 55) (off := 54) hx hb dX7_count_1 (by rw [c_9]; decide) (by rw [c_9]; decide) (by rw [c_9]; rfl) (by decide) ?_
    refine lv_aload_n hx hb dX7_count_55 rfl (lv_at hl 0 rfl) ?_
    refine xr_get (D := (dC, dI)) (C := RX7) (T := TX7) (N := 9) (v := .ref (ad 1)) hx hb hts wX7_count_c7 hown hK hP 0 (by decide) me_M rfl 0 (by decide) wX7_count_f7 rfl rfl dX7_count_56 ?_
    refine lv_sipush (v := (3702 : Int32)) hx hb dX7_count_59 (by decide) ?_
    refine xr_lald (k := 3702) hx hb hK hP 1 1 (by decide) me_s rfl rfl (x_in _ _ (by decide)) dX7_count_62 ?_
    exact W.lret (v := (m_s r 3702)) hx hb hr (fun t ht hW => ⟨⟨(m_s r 3702), (), rfl, h, x_ht ht hP⟩, hS.F ht⟩) hS.2.2 dX7_count_63
  have h := h.2 c_9
  by_cases c_10 : x1 = 5
  · have h := h.1 c_10
    refine lv_tableIn (tgt := 64) (off := 63) hx hb dX7_count_1 (by rw [c_10]; decide) (by rw [c_10]; decide) (by rw [c_10]; rfl) (by decide) ?_
    refine lv_aload_n hx hb dX7_count_64 rfl (lv_at hl 0 rfl) ?_
    refine xr_get (D := (dC, dI)) (C := RX7) (T := TX7) (N := 9) (v := .ref (ad 1)) hx hb hts wX7_count_c7 hown hK hP 0 (by decide) me_M rfl 0 (by decide) wX7_count_f7 rfl rfl dX7_count_65 ?_
    refine lv_sipush (v := (3703 : Int32)) hx hb dX7_count_68 (by decide) ?_
    refine xr_lald (k := 3703) hx hb hK hP 1 1 (by decide) me_s rfl rfl (x_in _ _ (by decide)) dX7_count_71 ?_
    exact W.lret (v := (m_s r 3703)) hx hb hr (fun t ht hW => ⟨⟨(m_s r 3703), (), rfl, h, x_ht ht hP⟩, hS.F ht⟩) hS.2.2 dX7_count_72
  have h := h.2 c_10
  by_cases c_11 : x1 = 6
  · have h := h.1 c_11
    refine lv_tableIn (tgt := 73) (off := 72) hx hb dX7_count_1 (by rw [c_11]; decide) (by rw [c_11]; decide) (by rw [c_11]; rfl) (by decide) ?_
    refine lv_aload_n hx hb dX7_count_73 rfl (lv_at hl 0 rfl) ?_
    refine xr_get (D := (dC, dI)) (C := RX7) (T := TX7) (N := 9) (v := .ref (ad 1)) hx hb hts wX7_count_c7 hown hK hP 0 (by decide) me_M rfl 0 (by decide) wX7_count_f7 rfl rfl dX7_count_74 ?_
    refine lv_sipush (v := (3704 : Int32)) hx hb dX7_count_77 (by decide) ?_
    refine xr_lald (k := 3704) hx hb hK hP 1 1 (by decide) me_s rfl rfl (x_in _ _ (by decide)) dX7_count_80 ?_
    exact W.lret (v := (m_s r 3704)) hx hb hr (fun t ht hW => ⟨⟨(m_s r 3704), (), rfl, h, x_ht ht hP⟩, hS.F ht⟩) hS.2.2 dX7_count_81
  have h := h.2 c_11
  by_cases c_12 : x1 = 7
  · have h := h.1 c_12
    refine lv_tableIn (tgt := 82) (off := 81) hx hb dX7_count_1 (by rw [c_12]; decide) (by rw [c_12]; decide) (by rw [c_12]; rfl) (by decide) ?_
    refine lv_aload_n hx hb dX7_count_82 rfl (lv_at hl 0 rfl) ?_
    refine xr_get (D := (dC, dI)) (C := RX7) (T := TX7) (N := 9) (v := .int (m_kp r)) hx hb hts wX7_count_c7 hown hK hP 0 (by decide) me_M rfl 2 (by decide) wX7_count_f30 rfl rfl dX7_count_83 ?_
    refine lv_i2l hx hb dX7_count_86 rfl ?_
    exact W.lret (v := ((m_kp r).toInt64)) hx hb hr (fun t ht hW => ⟨⟨((m_kp r).toInt64), (), rfl, h, x_ht ht hP⟩, hS.F ht⟩) hS.2.2 dX7_count_87
  have h := h.2 c_12
  refine lv_tableOut (tgt := 88) hx hb dX7_count_1 (x_sw8 c_1 c_3 c_5 c_7 c_9 c_10 c_11 c_12) (by decide) ?_
  refine lv_ldc2 (v := (-2000000001 : Int64)) hx hb hown (hts _ wX7_count_k73) dX7_count_88 ?_
  exact W.lret (v := (-2000000001 : Int64)) hx hb hr (fun t ht hW => ⟨⟨(-2000000001 : Int64), (), rfl, h, x_ht ht hP⟩, hS.F ht⟩) hS.2.2 dX7_count_91
