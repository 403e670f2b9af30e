abbrev rmX1_keep : Room := { frames := 2, cells := 0, slots := 0, locals := 62 }
theorem wX1_keep_m29 : Cond.methodLink RX1 29 Lib.Math.min.name ∈ wsX1_keep := by decide +kernel
theorem wX1_keep_m29a : Cond.static Lib.Math.min.name ∈ wsX1_keep := by decide +kernel
theorem wX1_keep_mth : Cond.initialized "java/lang/Math" ∈ wsX1_keep := by decide +kernel
theorem wX1_keep_m29b : Cond.code Lib.Math.min.name Lib.Math.min.code 2 (some .int) ∈ wsX1_keep := by decide +kernel
theorem wX1_keep_c1 : ∀ w ∈ u_ws RX1 TX1 3, w ∈ wsX1_keep := by decide +kernel
theorem wX1_keep_f26 : Cond.fieldLink RX1 26 "DueWheels$Kept" "size" "I" ∈ wsX1_keep := by decide +kernel
theorem wX1_keep_f18 : Cond.fieldLink RX1 18 "DueWheels$Kept" "latest" "I" ∈ wsX1_keep := by decide +kernel
theorem wX1_keep_f11 : Cond.fieldLink RX1 11 "DueWheels$Kept" "ring" "[LDueWheels$State;" ∈ wsX1_keep := by decide +kernel
def PX1_keep (j : Nat) (st : Nat → StV) (kv : KvV)  (post : (Nat → StV) → KvV → Prop) : Prop :=
  ∀ kv_1 : KvV, kv_1 = k_wla kv (((k_la kv) + (1 : Int32)) - ((k_la kv) + (1 : Int32)) / (6 : Int32) * (6 : Int32)) → (vp_in (k_la kv_1) 6 ∧ (k_rg kv_1 ((k_la kv_1).toNatClampNeg)) < 7 ∧ (j ≠ (k_rg kv_1 ((k_la kv_1).toNatClampNeg)) ∧ PX4_copyOf (st (k_rg kv_1 ((k_la kv_1).toNatClampNeg))) (st j) (fun (v_5 : StV) => ∀ st_6 : Nat → StV, st_6 = va_up st (k_rg kv_1 ((k_la kv_1).toNatClampNeg)) v_5 → ∀ kv_7 : KvV, kv_7 = k_wsz kv_1 (if (6 : Int32) < ((k_sz kv_1) + (1 : Int32)) then (6 : Int32) else ((k_sz kv_1) + (1 : Int32))) → post st_6 kv_7)))
set_option maxHeartbeats 4000000 in
set_option maxRecDepth 100000 in
theorem qX1_keep (l : Launch) (dC : Nat → ClassId) (dI : Nat → Nat → Nat) (ad : Nat → Nat) (ci : Nat → ClassId) (A : Nat → Prop) (hAD : xw_D 141 ad A) (st : Nat → StV) (ln : Nat → LnV) (sv : SvV) (kv : KvV) (cu : Nat) (j : Nat) (hj : j < 7)  (post : (Nat → StV) → KvV → Prop) (h : PX1_keep j st kv post) : Met l yX1_keep wsX1_keep rmX1_keep (va_Pc [.ref (ad 1), .ref (ad (xaS j))] (fun U => va_P (dC, dI) vwCl (xw 141 ad (xc ad ci st ln sv kv cu)) U.heap ∧ va_K (dC, dI) vwCl (xT ci) U)) (va_Qv (fun u : (Nat → StV) × KvV => post (u.1) (u.2)) (fun u t => va_P (dC, dI) vwCl (xw 141 ad (xc ad ci (u.1) ln sv (u.2) cu)) t.heap) A) 0 0 A := by
  refine Met.ofW (cc := cX1_keep) (maxL := 2) (ret := none) (by decide) rfl ?_
  intro p e s m args below meth c s₁ B hml hv
  obtain ⟨eargs, hP, hK⟩ := hv
  have C0 : xC p s m args meth c cX1_keep 2 none RX1 wsX1_keep (dC, dI) (xT ci) := ⟨B.exec, B.bytes, hml, B.returns, B.notSynchronized, findClass_of_methodNamed B.named, atoms_spec (ws := wsX1_keep) B.pre, hK⟩
  obtain ⟨hx, hb, -, hr, hlocks, hown, hts, -⟩ := id C0
  have hS : va_S A s.heap s.heap [] := va_S.rf
  have hl := lv_entry ([.ref (ad 1), .ref (ad (xaS j))]) (n := 2) (Nat.le_of_ble_eq_true rfl)
  have ef : entryFrame m args 2 = entryFrame m ([.ref (ad 1), .ref (ad (xaS j))] : List Value).toArray 2 := by rw [eargs]
  rw [ef, lg_entry_eq]
  generalize (lg_sl ([.ref (ad 1), .ref (ad (xaS j))]) ++ List.replicate (2 - (lg_sl ([.ref (ad 1), .ref (ad (xaS j))])).length) Slot.unset).toArray = ls at hl ⊢
  have hl : lv_has ls 2 [(0, .ref (ad 1)), (1, .ref (ad (xaS j)))] := hl
  have hP : va_P (dC, dI) vwCl (xw 141 ad (xc ad ci st ln sv kv cu)) s.heap := hP
  unfold PX1_keep at h
  refine lv_aload_n hx hb dX1_keep_0 rfl (lv_at hl 0 rfl) ?_
  refine lv_aload_n hx hb dX1_keep_1 rfl (lv_at hl 0 rfl) ?_
  refine xr_get (D := (dC, dI)) (C := RX1) (T := TX1) (N := 3) (v := .int (k_la kv)) hx hb hts wX1_keep_c1 hown hK hP 1 (by decide) xe_K rfl 1 (by decide) wX1_keep_f18 rfl rfl dX1_keep_2 ?_
  refine lv_iconst (v := (1 : Int32)) hx hb dX1_keep_5 (by decide) ?_
  refine lv_iadd hx hb dX1_keep_6 ?_
  refine lv_bipush (v := (6 : Int32)) hx hb dX1_keep_7 (by decide) ?_
  refine lv_irem hx hb dX1_keep_9 (by decide) ?_
  obtain ⟨kv_1, ekv_1⟩ : ∃ z : KvV, z = k_wla kv (((k_la kv) + (1 : Int32)) - ((k_la kv) + (1 : Int32)) / (6 : Int32) * (6 : Int32)) := ⟨_, rfl⟩
  have h := h kv_1 ekv_1
  refine xr_put (D := (dC, dI)) (C := RX1) (T := TX1) (N := 3) (ty := .int) (v := .int (((k_la kv) + (1 : Int32)) - ((k_la kv) + (1 : Int32)) / (6 : Int32) * (6 : Int32))) (g := (xc ad ci st ln sv kv_1 cu)) hx hb hts wX1_keep_c1 tyX1 tyX1_ok nmX1 hown hK hP hAD hS 1 (by decide) xe_K rfl 1 (by decide) wX1_keep_f18 rfl rfl (by decide +kernel) rfl rfl (Nat.le_of_ble_eq_true rfl) dX1_keep_10 (by rw [ekv_1]; exact xg_kla) (fun H locs hP hS => ?_)
  refine lv_aload_n hx hb dX1_keep_13 rfl (lv_at hl 0 rfl) ?_
  refine xr_get (D := (dC, dI)) (C := RX1) (T := TX1) (N := 3) (v := .ref (ad 2)) hx hb hts wX1_keep_c1 hown hK hP 1 (by decide) xe_K rfl 0 (by decide) wX1_keep_f11 rfl rfl dX1_keep_14 ?_
  refine lv_aload_n hx hb dX1_keep_17 rfl (lv_at hl 0 rfl) ?_
  refine xr_get (D := (dC, dI)) (C := RX1) (T := TX1) (N := 3) (v := .int (k_la kv_1)) hx hb hts wX1_keep_c1 hown hK hP 1 (by decide) xe_K rfl 1 (by decide) wX1_keep_f18 rfl rfl dX1_keep_18 ?_
  obtain ⟨g_2, h⟩ := h
  obtain ⟨g_3, h⟩ := h
  refine xr_aald (k := (k_la kv_1).toNatClampNeg) (b := ad (xaS (k_rg kv_1 ((k_la kv_1).toNatClampNeg)))) hx hb hK hP 2 3 (by decide) xe_RG rfl rfl rfl g_2 rfl dX1_keep_21 ?_
  refine lv_aload_n hx hb dX1_keep_22 rfl (lv_at hl 1 rfl) ?_
  obtain ⟨g_4, h⟩ := h
  have hP9 := x_e1 (k_rg kv_1 ((k_la kv_1).toNatClampNeg)) hP
  refine va_callv (va_runV (As := [.ref (ad (xaS j))]) (rest := []) ⟨hx, hb, C0.2.2.1, hown, hts⟩ (qX4_copyOf l dC dI ad ci A hAD st (st (k_rg kv_1 ((k_la kv_1).toNatClampNeg))) (st j) ln sv kv_1 cu (k_rg kv_1 ((k_la kv_1).toNatClampNeg)) g_3 j hj g_4 rfl  _ h) (cwV 1 hts gX1_keep_X4_copyOf rfl rfl rfl (by decide +kernel) ⟨Nat.le_of_ble_eq_true rfl, Nat.le_of_ble_eq_true rfl⟩) ⟨xr_blind, xr_recv (r := (RX4, TX4, 8)) hK hP (xaS (k_rg kv_1 ((k_la kv_1).toNatClampNeg))) (xq_S g_3) (xe_S rfl) rfl, xr_pre hP9 hK⟩ rfl rfl hl.1 rfl (lv_room (Nat.le_of_ble_eq_true rfl)) dX1_keep_23 ⟨Nat.zero_le _, Nat.zero_le _⟩) hS (fun _ _ h => h) (fun _ h => h) (fun v_5 t9 H locs ht hvm h hB _ _ hS => ?_)
  refine W.cs (cells' := 0) (slots' := 0) rfl rfl ?_
  have hP := x_th ht hB
  have hP : va_P (dC, dI) vwCl (xw 141 ad (xc ad ci (va_up st (k_rg kv_1 ((k_la kv_1).toNatClampNeg)) v_5) ln sv kv_1 cu)) H := by exact hP
  obtain ⟨st_6, est_6⟩ : ∃ z : Nat → StV, z = va_up st (k_rg kv_1 ((k_la kv_1).toNatClampNeg)) v_5 := ⟨_, rfl⟩
  have h := h st_6 est_6
  rw [← est_6] at hP
  refine lv_aload_n hx hb dX1_keep_26 rfl (lv_at hl 0 rfl) ?_
  refine lv_aload_n hx hb dX1_keep_27 rfl (lv_at hl 0 rfl) ?_
  refine xr_get (D := (dC, dI)) (C := RX1) (T := TX1) (N := 3) (v := .int (k_sz kv_1)) hx hb hts wX1_keep_c1 hown hK hP 1 (by decide) xe_K rfl 2 (by decide) wX1_keep_f26 rfl rfl dX1_keep_28 ?_
  refine lv_iconst (v := (1 : Int32)) hx hb dX1_keep_31 (by decide) ?_
  refine lv_iadd hx hb dX1_keep_32 ?_
  refine lv_bipush (v := (6 : Int32)) hx hb dX1_keep_33 (by decide) ?_
  refine va_mmin hx hb (by rw [C0.2.2.1]; exact hl.1.symm) hown (hts _ wX1_keep_m29) (hts _ wX1_keep_m29a) (hts _ wX1_keep_mth) (hts _ wX1_keep_m29b) (Nat.le_of_ble_eq_true rfl) (Nat.le_of_ble_eq_true rfl) (Nat.zero_le _) (Nat.zero_le _) dX1_keep_35 ?_
  obtain ⟨kv_7, ekv_7⟩ : ∃ z : KvV, z = k_wsz kv_1 (if (6 : Int32) < ((k_sz kv_1) + (1 : Int32)) then (6 : Int32) else ((k_sz kv_1) + (1 : Int32))) := ⟨_, rfl⟩
  have h := h kv_7 ekv_7
  refine xr_put (D := (dC, dI)) (C := RX1) (T := TX1) (N := 3) (ty := .int) (v := .int (if (6 : Int32) < ((k_sz kv_1) + (1 : Int32)) then (6 : Int32) else ((k_sz kv_1) + (1 : Int32)))) (g := (xc ad ci st_6 ln sv kv_7 cu)) hx hb hts wX1_keep_c1 tyX1 tyX1_ok nmX1 hown hK hP hAD hS 1 (by decide) xe_K rfl 2 (by decide) wX1_keep_f26 rfl rfl (by decide +kernel) rfl rfl (Nat.le_of_ble_eq_true rfl) dX1_keep_38 (by rw [ekv_7]; exact xg_ksz) (fun H locs hP hS => ?_)
  exact W.vret hx hb hr (fun t ht hW => ⟨⟨(st_6, kv_7), rfl, h, x_ht ht hP⟩, hS.F ht⟩) hS.2.2 dX1_keep_41
abbrev rmX1_takeBack : Room := { frames := 0, cells := 0, slots := 0, locals := 0 }
theorem wX1_takeBack_c1 : ∀ w ∈ u_ws RX1 TX1 3, w ∈ wsX1_takeBack := by decide +kernel
theorem wX1_takeBack_f26 : Cond.fieldLink RX1 26 "DueWheels$Kept" "size" "I" ∈ wsX1_takeBack := by decide +kernel
theorem wX1_takeBack_f18 : Cond.fieldLink RX1 18 "DueWheels$Kept" "latest" "I" ∈ wsX1_takeBack := by decide +kernel
theorem wX1_takeBack_f11 : Cond.fieldLink RX1 11 "DueWheels$Kept" "ring" "[LDueWheels$State;" ∈ wsX1_takeBack := by decide +kernel
def PX1_takeBack (j : Nat) (kv : KvV)  (post : Nat → KvV → Prop) : Prop :=
  (vp_in (k_la kv) 6 ∧ (k_rg kv ((k_la kv).toNatClampNeg)) < 7 ∧ (vp_in (k_la kv) 6 ∧ ∀ kv_4 : KvV, kv_4 = k_wrg kv (va_up (k_rg kv) ((k_la kv).toNatClampNeg) j) → ∀ kv_5 : KvV, kv_5 = k_wla kv_4 ((((k_la kv_4) + (6 : Int32)) - (1 : Int32)) - (((k_la kv_4) + (6 : Int32)) - (1 : Int32)) / (6 : Int32) * (6 : Int32)) → ∀ kv_6 : KvV, kv_6 = k_wsz kv_5 ((k_sz kv_5) - (1 : Int32)) → post (k_rg kv ((k_la kv).toNatClampNeg)) kv_6))
set_option maxHeartbeats 4000000 in
set_option maxRecDepth 100000 in
theorem qX1_takeBack (l : Launch) (dC : Nat → ClassId) (dI : Nat → Nat → Nat) (ad : Nat → Nat) (ci : Nat → ClassId) (A : Nat → Prop) (hAD : xw_D 141 ad A) (st : Nat → StV) (ln : Nat → LnV) (sv : SvV) (kv : KvV) (cu : Nat) (j : Nat) (hj : j < 7)  (post : Nat → KvV → Prop) (h : PX1_takeBack j kv post) : Met l yX1_takeBack wsX1_takeBack rmX1_takeBack (va_Pc [.ref (ad 1), .ref (ad (xaS j))] (fun U => va_P (dC, dI) vwCl (xw 141 ad (xc ad ci st ln sv kv cu)) U.heap ∧ va_K (dC, dI) vwCl (xT ci) U)) (va_Qr (fun u : Nat × (KvV) => post u.1 (u.2)) (fun u a t => a = ad (xaS u.1) ∧ va_P (dC, dI) vwCl (xw 141 ad (xc ad ci st ln sv (u.2) cu)) t.heap) A) 0 0 A := by
  refine Met.ofW (cc := cX1_takeBack) (maxL := 3) (ret := (some (.object "DueWheels$State"))) (by decide) rfl ?_
  intro p e s m args below meth c s₁ B hml hv
  obtain ⟨eargs, hP, hK⟩ := hv
  have C0 : xC p s m args meth c cX1_takeBack 3 (some (.object "DueWheels$State")) RX1 wsX1_takeBack (dC, dI) (xT ci) := ⟨B.exec, B.bytes, hml, B.returns, B.notSynchronized, findClass_of_methodNamed B.named, atoms_spec (ws := wsX1_takeBack) B.pre, hK⟩
  obtain ⟨hx, hb, -, hr, hlocks, hown, hts, -⟩ := id C0
  have hS : va_S A s.heap s.heap [] := va_S.rf
  have hl := lv_entry ([.ref (ad 1), .ref (ad (xaS j))]) (n := 3) (Nat.le_of_ble_eq_true rfl)
  have ef : entryFrame m args 3 = entryFrame m ([.ref (ad 1), .ref (ad (xaS j))] : List Value).toArray 3 := by rw [eargs]
  rw [ef, lg_entry_eq]
  generalize (lg_sl ([.ref (ad 1), .ref (ad (xaS j))]) ++ List.replicate (3 - (lg_sl ([.ref (ad 1), .ref (ad (xaS j))])).length) Slot.unset).toArray = ls at hl ⊢
  have hl : lv_has ls 3 [(0, .ref (ad 1)), (1, .ref (ad (xaS j)))] := hl
  have hP : va_P (dC, dI) vwCl (xw 141 ad (xc ad ci st ln sv kv cu)) s.heap := hP
  unfold PX1_takeBack at h
  refine lv_aload_n hx hb dX1_takeBack_0 rfl (lv_at hl 0 rfl) ?_
  refine xr_get (D := (dC, dI)) (C := RX1) (T := TX1) (N := 3) (v := .ref (ad 2)) hx hb hts wX1_takeBack_c1 hown hK hP 1 (by decide) xe_K rfl 0 (by decide) wX1_takeBack_f11 rfl rfl dX1_takeBack_1 ?_
  refine lv_aload_n hx hb dX1_takeBack_4 rfl (lv_at hl 0 rfl) ?_
  refine xr_get (D := (dC, dI)) (C := RX1) (T := TX1) (N := 3) (v := .int (k_la kv)) hx hb hts wX1_takeBack_c1 hown hK hP 1 (by decide) xe_K rfl 1 (by decide) wX1_takeBack_f18 rfl rfl dX1_takeBack_5 ?_
  obtain ⟨g_1, h⟩ := h
  obtain ⟨g_2, h⟩ := h
  refine xr_aald (k := (k_la kv).toNatClampNeg) (b := ad (xaS (k_rg kv ((k_la kv).toNatClampNeg)))) hx hb hK hP 2 3 (by decide) xe_RG rfl rfl rfl g_1 rfl dX1_takeBack_8 ?_
  refine lv_astore_n (lv' := [(2, .ref (ad (xaS (k_rg kv ((k_la kv).toNatClampNeg))))), (0, .ref (ad 1)), (1, .ref (ad (xaS j)))]) hx hb dX1_takeBack_9 rfl hl (by decide) rfl (fun ls hl => ?_)
  refine lv_aload_n hx hb dX1_takeBack_10 rfl (lv_at hl 1 rfl) ?_
  refine xr_get (D := (dC, dI)) (C := RX1) (T := TX1) (N := 3) (v := .ref (ad 2)) hx hb hts wX1_takeBack_c1 hown hK hP 1 (by decide) xe_K rfl 0 (by decide) wX1_takeBack_f11 rfl rfl dX1_takeBack_11 ?_
  refine lv_aload_n hx hb dX1_takeBack_14 rfl (lv_at hl 1 rfl) ?_
  refine xr_get (D := (dC, dI)) (C := RX1) (T := TX1) (N := 3) (v := .int (k_la kv)) hx hb hts wX1_takeBack_c1 hown hK hP 1 (by decide) xe_K rfl 1 (by decide) wX1_takeBack_f18 rfl rfl dX1_takeBack_15 ?_
  refine lv_aload_n hx hb dX1_takeBack_18 rfl (lv_at hl 2 rfl) ?_
  obtain ⟨g_3, h⟩ := h
  obtain ⟨kv_4, ekv_4⟩ : ∃ z : KvV, z = k_wrg kv (va_up (k_rg kv) ((k_la kv).toNatClampNeg) j) := ⟨_, rfl⟩
  have h := h kv_4 ekv_4
  refine xr_aast (k := (k_la kv).toNatClampNeg) (r := (RX4, TX4, 8)) (g := (xc ad ci st ln sv kv_4 cu)) hx hb hK hP hAD hS 2 3 (xaS j) 4 (by decide) (xq_S hj) xe_RG rfl (xe_S rfl) rfl rfl g_3 dX1_takeBack_19 (by rw [ekv_4]; exact xg_krg) (fun H locs hP hS => ?_)
  refine lv_aload_n hx hb dX1_takeBack_20 rfl (lv_at hl 1 rfl) ?_
  refine lv_aload_n hx hb dX1_takeBack_21 rfl (lv_at hl 1 rfl) ?_
  refine xr_get (D := (dC, dI)) (C := RX1) (T := TX1) (N := 3) (v := .int (k_la kv_4)) hx hb hts wX1_takeBack_c1 hown hK hP 1 (by decide) xe_K rfl 1 (by decide) wX1_takeBack_f18 rfl rfl dX1_takeBack_22 ?_
  refine lv_bipush (v := (6 : Int32)) hx hb dX1_takeBack_25 (by decide) ?_
  refine lv_iadd hx hb dX1_takeBack_27 ?_
  refine lv_iconst (v := (1 : Int32)) hx hb dX1_takeBack_28 (by decide) ?_
  refine lv_isub hx hb dX1_takeBack_29 ?_
  refine lv_bipush (v := (6 : Int32)) hx hb dX1_takeBack_30 (by decide) ?_
  refine lv_irem hx hb dX1_takeBack_32 (by decide) ?_
  obtain ⟨kv_5, ekv_5⟩ : ∃ z : KvV, z = k_wla kv_4 ((((k_la kv_4) + (6 : Int32)) - (1 : Int32)) - (((k_la kv_4) + (6 : Int32)) - (1 : Int32)) / (6 : Int32) * (6 : Int32)) := ⟨_, rfl⟩
  have h := h kv_5 ekv_5
  refine xr_put (D := (dC, dI)) (C := RX1) (T := TX1) (N := 3) (ty := .int) (v := .int ((((k_la kv_4) + (6 : Int32)) - (1 : Int32)) - (((k_la kv_4) + (6 : Int32)) - (1 : Int32)) / (6 : Int32) * (6 : Int32))) (g := (xc ad ci st ln sv kv_5 cu)) hx hb hts wX1_takeBack_c1 tyX1 tyX1_ok nmX1 hown hK hP hAD hS 1 (by decide) xe_K rfl 1 (by decide) wX1_takeBack_f18 rfl rfl (by decide +kernel) rfl rfl (Nat.le_of_ble_eq_true rfl) dX1_takeBack_33 (by rw [ekv_5]; exact xg_kla) (fun H locs hP hS => ?_)
  refine lv_aload_n hx hb dX1_takeBack_36 rfl (lv_at hl 1 rfl) ?_
  refine lv_dup hx hb dX1_takeBack_37 rfl ?_
  refine xr_get (D := (dC, dI)) (C := RX1) (T := TX1) (N := 3) (v := .int (k_sz kv_5)) hx hb hts wX1_takeBack_c1 hown hK hP 1 (by decide) xe_K rfl 2 (by decide) wX1_takeBack_f26 rfl rfl dX1_takeBack_38 ?_
  refine lv_iconst (v := (1 : Int32)) hx hb dX1_takeBack_41 (by decide) ?_
  refine lv_isub hx hb dX1_takeBack_42 ?_
  obtain ⟨kv_6, ekv_6⟩ : ∃ z : KvV, z = k_wsz kv_5 ((k_sz kv_5) - (1 : Int32)) := ⟨_, rfl⟩
  have h := h kv_6 ekv_6
  refine xr_put (D := (dC, dI)) (C := RX1) (T := TX1) (N := 3) (ty := .int) (v := .int ((k_sz kv_5) - (1 : Int32))) (g := (xc ad ci st ln sv kv_6 cu)) hx hb hts wX1_takeBack_c1 tyX1 tyX1_ok nmX1 hown hK hP hAD hS 1 (by decide) xe_K rfl 2 (by decide) wX1_takeBack_f26 rfl rfl (by decide +kernel) rfl rfl (Nat.le_of_ble_eq_true rfl) dX1_takeBack_43 (by rw [ekv_6]; exact xg_ksz) (fun H locs hP hS => ?_)
  refine lv_aload_n hx hb dX1_takeBack_46 rfl (lv_at hl 0 rfl) ?_
  exact W.aret (v := .ref (ad (xaS (k_rg kv ((k_la kv).toNatClampNeg))))) hx hb hr (Or.inl ⟨_, rfl⟩) (Or.inr ⟨_, rfl⟩) (fun t ht hW => ⟨⟨((k_rg kv ((k_la kv).toNatClampNeg)), kv_6), _, rfl, h, rfl, x_ht ht hP⟩, hS.F ht⟩) hS.2.2 dX1_takeBack_47
