/-! Kept: keep and takeBack -/
theorem xrg_s {ad : Nat → Nat} {kv : KvV} {i : Nat} (h : k_rg kv i < 7) : xrg ad kv i = some (ad (xaS (k_rg kv i))) := if_pos h
theorem xrg_n {ad : Nat → Nat} {kv : KvV} {i : Nat} (h : ¬ k_rg kv i < 7) : xrg ad kv i = none := if_neg h
abbrev rmX1_keep : Room := { frames := 2, cells := 18, slots := 3323, locals := 62 }
theorem wX1_keep_m29 : Cond.methodLink RX1 29 Lib.Math.min.name ∈ wsX1_keep := by decide +kernel
theorem wX1_keep_m29a : Cond.static Lib.Math.min.name ∈ wsX1_keep := by decide +kernel
theorem wX1_keep_mth : Cond.initialized "java/lang/Math" ∈ wsX1_keep := by decide +kernel
theorem wX1_keep_m29b : Cond.code Lib.Math.min.name Lib.Math.min.code 2 (some .int) ∈ wsX1_keep := by decide +kernel
theorem wX1_keep_c1 : ∀ w ∈ u_ws RX1 TX1 3, w ∈ wsX1_keep := by decide +kernel
theorem wX1_keep_c4 : ∀ w ∈ u_ws RX4 TX4 8, w ∈ wsX1_keep := by decide +kernel
theorem wX1_keep_f26 : Cond.fieldLink RX1 26 "DueWheels$Kept" "size" "I" ∈ wsX1_keep := by decide +kernel
theorem wX1_keep_f17 : Cond.fieldLink RX1 17 "DueWheels$Kept" "latest" "I" ∈ wsX1_keep := by decide +kernel
theorem wX1_keep_f11 : Cond.fieldLink RX1 11 "DueWheels$Kept" "ring" "[LDueWheels$State;" ∈ wsX1_keep := by decide +kernel
/-- from the place where the ring surely holds a state -/
def RX1_keep (j : Nat) (st : Nat → StV) (kv : KvV) (post : (Nat → StV) → KvV → Prop) : Prop :=
  vp_in (k_la kv) 6 ∧ (k_rg kv ((k_la kv).toNatClampNeg)) < k_ns kv ∧ (k_rg kv ((k_la kv).toNatClampNeg)) < 7 ∧ j ≠ (k_rg kv ((k_la kv).toNatClampNeg)) ∧ PX4_copyOf (st (k_rg kv ((k_la kv).toNatClampNeg))) (st j) (fun (v_5 : StV) => ∀ st_6 : Nat → StV, st_6 = va_up st (k_rg kv ((k_la kv).toNatClampNeg)) v_5 → ∀ kv_7 : KvV, kv_7 = k_wsz kv (if (6 : Int32) < ((k_sz kv) + (1 : Int32)) then (6 : Int32) else ((k_sz kv) + (1 : Int32))) → post st_6 kv_7)
def PX1_keep (j : Nat) (st : Nat → StV) (kv : KvV) (post : (Nat → StV) → KvV → Prop) : Prop :=
  ∀ kv_1 : KvV, kv_1 = k_wla kv (((k_la kv) + (1 : Int32)) - ((k_la kv) + (1 : Int32)) / (6 : Int32) * (6 : Int32)) → vp_in (k_la kv_1) 6 ∧ (¬ (k_rg kv_1 ((k_la kv_1).toNatClampNeg)) < 7 → k_ns kv_1 < 7 ∧ (∀ i, i < 6 → k_rg kv_1 i < 7 → k_rg kv_1 i < k_ns kv_1) ∧ ∀ kv_2 : KvV, kv_2 = k_wrg (k_wns kv_1 (k_ns kv_1 + 1)) (va_up (k_rg kv_1) ((k_la kv_1).toNatClampNeg) (k_ns kv_1)) → RX1_keep j (va_up st (k_ns kv_1) (st0 (k_ns kv_1))) kv_2 post) ∧ ((k_rg kv_1 ((k_la kv_1).toNatClampNeg)) < 7 → RX1_keep j st kv_1 post)
set_option maxHeartbeats 4000000 in
set_option maxRecDepth 100000 in
theorem kX1_keep_41 {p : Program} {e : Env} {s : State} {m : MethodId} {args : Array Value} {below : List Frame} {meth : Method} {c : Code} (l : Launch) (dC : Nat → ClassId) (dI : Nat → Nat → Nat) (ad : Nat → Nat) (ci : Nat → ClassId) (A : Nat → Prop) (ns : Nat) (hAD : xw_D (xn ns) ad A) (st : Nat → StV) (ln : Nat → LnV) (sv : SvV) (kv : KvV) (cu : Nat) (j : Nat) (hj : j < ns) (hcu : cu < ns) (hns : k_ns kv = ns) (a0 : Nat) (h0 : ad 0 = a0) (post : (Nat → StV) → KvV → Prop) (C0 : xC p s m args meth c cX1_keep 2 none RX1 wsX1_keep (dC, dI) (xT ci)) (H : Heap) (locs : List Loc) (ls : Array Slot) (h : RX1_keep j st kv post) (hP : va_P (dC, dI) vwCl (xw (xn ns) ad (xc ad ci st ln sv kv cu)) H) (hS : va_S A s.heap H locs) (hl : lv_has ls 2 [(0, .ref (ad 1)), (1, .ref (ad (xaS j)))]) : W p l e rmX1_keep s m args below meth c H locs 18 3323 (MQ below (va_Qv (fun u : (Nat → StV) × KvV => post (u.1) (u.2)) (fun u t => xB (dC, dI) ci A a0 (u.1) ln sv (u.2) cu t.heap) A) args s 18 3323 A) (F0 m 41 ls []) := by
  obtain ⟨hx, hb, -, hr, hlocks, hown, hts, hK⟩ := id C0
  obtain ⟨g_2, g_3, g_7, g_4, h⟩ := h
  rw [hns] at g_3
  refine lv_aload_n hx hb dX1_keep_41 rfl (lv_at hl 0 rfl) ?_
  refine xr_get (D := (dC, dI)) (C := RX1) (T := TX1) (N := 3) (v := .ref (ad 2)) hx hb hts wX1_keep_c1 hown hK hP 1 (xq_c (by decide)) xe_K rfl 0 (by decide) wX1_keep_f11 rfl rfl dX1_keep_42 ?_
  refine lv_aload_n hx hb dX1_keep_45 rfl (lv_at hl 0 rfl) ?_
  refine xr_get (D := (dC, dI)) (C := RX1) (T := TX1) (N := 3) (v := .int (k_la kv)) hx hb hts wX1_keep_c1 hown hK hP 1 (xq_c (by decide)) xe_K rfl 1 (by decide) wX1_keep_f17 rfl rfl dX1_keep_46 ?_
  refine xr_aald (k := (k_la kv).toNatClampNeg) (b := ad (xaS (k_rg kv ((k_la kv).toNatClampNeg)))) hx hb hK hP 2 3 (xq_c (by decide)) xe_RG rfl rfl rfl g_2 (xrg_s g_7) dX1_keep_49 ?_
  refine lv_aload_n hx hb dX1_keep_50 rfl (lv_at hl 1 rfl) ?_
  have hP9 := x_e1 (k_rg kv ((k_la kv).toNatClampNeg)) hP
  refine va_callv (va_runV (As := [.ref (ad (xaS j))]) (rest := []) ⟨hx, hb, C0.2.2.1, hown, hts⟩ (qX4_copyOf l dC dI ad ci A ns hAD st (st (k_rg kv ((k_la kv).toNatClampNeg))) (st j) ln sv kv cu (k_rg kv ((k_la kv).toNatClampNeg)) g_3 j hj g_4 rfl  _ h) (cwV 1 hts gX1_keep_X4_copyOf rfl rfl rfl (by decide +kernel) ⟨Nat.le_of_ble_eq_true rfl, Nat.le_of_ble_eq_true rfl⟩) ⟨xr_blind, xr_recv (r := (RX4, TX4, 8)) hK hP (xaS (k_rg kv ((k_la kv).toNatClampNeg))) (xq_S g_3) (xe_S rfl) rfl, xr_pre hP9 hK⟩ rfl rfl hl.1 rfl (lv_room (Nat.le_of_ble_eq_true rfl)) dX1_keep_51 ⟨Nat.le_of_ble_eq_true rfl, Nat.le_of_ble_eq_true rfl⟩) hS (fun _ _ h => h) (fun _ h => h) (fun v_5 t9 H locs ht hvm h hB _ _ hS => ?_)
  refine W.cs (cells' := 18) (slots' := 3323) rfl rfl ?_
  have hP := x_th ht hB
  have hP : va_P (dC, dI) vwCl (xw (xn ns) ad (xc ad ci (va_up st (k_rg kv ((k_la kv).toNatClampNeg)) v_5) ln sv kv cu)) H := by exact hP
  obtain ⟨st_6, est_6⟩ : ∃ z : Nat → StV, z = va_up st (k_rg kv ((k_la kv).toNatClampNeg)) v_5 := ⟨_, rfl⟩
  have h := h st_6 est_6
  rw [← est_6] at hP
  refine lv_aload_n hx hb dX1_keep_54 rfl (lv_at hl 0 rfl) ?_
  refine lv_aload_n hx hb dX1_keep_55 rfl (lv_at hl 0 rfl) ?_
  refine xr_get (D := (dC, dI)) (C := RX1) (T := TX1) (N := 3) (v := .int (k_sz kv)) hx hb hts wX1_keep_c1 hown hK hP 1 (xq_c (by decide)) xe_K rfl 2 (by decide) wX1_keep_f26 rfl rfl dX1_keep_56 ?_
  refine lv_iconst (v := (1 : Int32)) hx hb dX1_keep_59 (by decide) ?_
  refine lv_iadd hx hb dX1_keep_60 ?_
  refine lv_bipush (v := (6 : Int32)) hx hb dX1_keep_61 (by decide) ?_
  refine va_mmin hx hb (by rw [C0.2.2.1]; exact hl.1.symm) hown (hts _ wX1_keep_m29) (hts _ wX1_keep_m29a) (hts _ wX1_keep_mth) (hts _ wX1_keep_m29b) (Nat.le_of_ble_eq_true rfl) (Nat.le_of_ble_eq_true rfl) (Nat.le_of_ble_eq_true rfl) (Nat.le_of_ble_eq_true rfl) dX1_keep_63 ?_
  obtain ⟨kv_7, ekv_7⟩ : ∃ z : KvV, z = k_wsz kv (if (6 : Int32) < ((k_sz kv) + (1 : Int32)) then (6 : Int32) else ((k_sz kv) + (1 : Int32))) := ⟨_, rfl⟩
  have h := h kv_7 ekv_7
  have hn7 : k_ns kv_7 = ns := by rw [ekv_7]; exact hns
  refine xr_put (D := (dC, dI)) (C := RX1) (T := TX1) (N := 3) (ty := .int) (v := .int (if (6 : Int32) < ((k_sz kv) + (1 : Int32)) then (6 : Int32) else ((k_sz kv) + (1 : Int32)))) (g := (xc ad ci st_6 ln sv kv_7 cu)) hx hb hts wX1_keep_c1 tyX1 tyX1_ok nmX1 hown hK hP hAD hS 1 (xq_c (by decide)) xe_K rfl 2 (by decide) wX1_keep_f26 rfl rfl (by decide +kernel) rfl rfl (Nat.le_of_ble_eq_true rfl) dX1_keep_66 (by rw [ekv_7]; exact xg_ksz) (fun H locs hP hS => ?_)
  exact W.vret hx hb hr (fun t ht hW => ⟨⟨(st_6, kv_7), rfl, h, ⟨ad, ns, hn7, h0, hAD, hcu, x_ht ht hP⟩⟩, hS.F ht⟩) hS.2.2 dX1_keep_69
set_option maxHeartbeats 4000000 in
set_option maxRecDepth 100000 in
theorem qX1_keep (l : Launch) (dC : Nat → ClassId) (dI : Nat → Nat → Nat) (ad : Nat → Nat) (ci : Nat → ClassId) (A : Nat → Prop) (ns : Nat) (hAD : xw_D (xn ns) ad A) (st : Nat → StV) (ln : Nat → LnV) (sv : SvV) (kv : KvV) (cu : Nat) (j : Nat) (hj : j < ns) (hcu : cu < ns) (hns : k_ns kv = ns) (post : (Nat → StV) → KvV → Prop) (h : PX1_keep j st kv post) : Met l yX1_keep wsX1_keep rmX1_keep (va_Pc [.ref (ad 1), .ref (ad (xaS j))] (xPre (dC, dI) ci A (fun H => va_P (dC, dI) vwCl (xw (xn ns) ad (xc ad ci st ln sv kv cu)) H))) (va_Qv (fun u : (Nat → StV) × KvV => post (u.1) (u.2)) (fun u t => xB (dC, dI) ci A (ad 0) (u.1) ln sv (u.2) cu t.heap) A) 18 3323 A := by
  refine Met.ofW (cc := cX1_keep) (maxL := 2) (ret := none) (by decide) rfl ?_
  intro p e s m args below meth c s₁ B hml hv
  obtain ⟨eargs, hP, hK, hN, hA⟩ := hv
  have C0 : xC p s m args meth c cX1_keep 2 none RX1 wsX1_keep (dC, dI) (xT ci) := ⟨B.exec, B.bytes, hml, B.returns, B.notSynchronized, findClass_of_methodNamed B.named, atoms_spec (ws := wsX1_keep) B.pre, hK⟩
  obtain ⟨hx, hb, -, hr, hlocks, hown, hts, -⟩ := id C0
  have hS : va_S A s.heap s.heap [] := va_S.rf
  have hl := lv_entry ([.ref (ad 1), .ref (ad (xaS j))]) (n := 2) (Nat.le_of_ble_eq_true rfl)
  have ef : entryFrame m args 2 = entryFrame m ([.ref (ad 1), .ref (ad (xaS j))] : List Value).toArray 2 := by rw [eargs]
  rw [ef, lg_entry_eq]
  generalize (lg_sl ([.ref (ad 1), .ref (ad (xaS j))]) ++ List.replicate (2 - (lg_sl ([.ref (ad 1), .ref (ad (xaS j))])).length) Slot.unset).toArray = ls at hl ⊢
  have hl : lv_has ls 2 [(0, .ref (ad 1)), (1, .ref (ad (xaS j)))] := hl
  have hP : va_P (dC, dI) vwCl (xw (xn ns) ad (xc ad ci st ln sv kv cu)) s.heap := hP
  unfold PX1_keep at h
  refine lv_aload_n hx hb dX1_keep_0 rfl (lv_at hl 0 rfl) ?_
  refine lv_aload_n hx hb dX1_keep_1 rfl (lv_at hl 0 rfl) ?_
  refine xr_get (D := (dC, dI)) (C := RX1) (T := TX1) (N := 3) (v := .int (k_la kv)) hx hb hts wX1_keep_c1 hown hK hP 1 (xq_c (by decide)) xe_K rfl 1 (by decide) wX1_keep_f17 rfl rfl dX1_keep_2 ?_
  refine lv_iconst (v := (1 : Int32)) hx hb dX1_keep_5 (by decide) ?_
  refine lv_iadd hx hb dX1_keep_6 ?_
  refine lv_bipush (v := (6 : Int32)) hx hb dX1_keep_7 (by decide) ?_
  refine lv_irem hx hb dX1_keep_9 (by decide) ?_
  obtain ⟨kv_1, ekv_1⟩ : ∃ z : KvV, z = k_wla kv (((k_la kv) + (1 : Int32)) - ((k_la kv) + (1 : Int32)) / (6 : Int32) * (6 : Int32)) := ⟨_, rfl⟩
  have h := h kv_1 ekv_1
  have hn1 : k_ns kv_1 = ns := by rw [ekv_1]; exact hns
  refine xr_put (D := (dC, dI)) (C := RX1) (T := TX1) (N := 3) (ty := .int) (v := .int (((k_la kv) + (1 : Int32)) - ((k_la kv) + (1 : Int32)) / (6 : Int32) * (6 : Int32))) (g := (xc ad ci st ln sv kv_1 cu)) hx hb hts wX1_keep_c1 tyX1 tyX1_ok nmX1 hown hK hP hAD hS 1 (xq_c (by decide)) xe_K rfl 1 (by decide) wX1_keep_f17 rfl rfl (by decide +kernel) rfl rfl (Nat.le_of_ble_eq_true rfl) dX1_keep_10 (by rw [ekv_1]; exact xg_kla) (fun H locs hP hS => ?_)
  refine lv_aload_n hx hb dX1_keep_13 rfl (lv_at hl 0 rfl) ?_
  refine xr_get (D := (dC, dI)) (C := RX1) (T := TX1) (N := 3) (v := .ref (ad 2)) hx hb hts wX1_keep_c1 hown hK hP 1 (xq_c (by decide)) xe_K rfl 0 (by decide) wX1_keep_f11 rfl rfl dX1_keep_14 ?_
  refine lv_aload_n hx hb dX1_keep_17 rfl (lv_at hl 0 rfl) ?_
  refine xr_get (D := (dC, dI)) (C := RX1) (T := TX1) (N := 3) (v := .int (k_la kv_1)) hx hb hts wX1_keep_c1 hown hK hP 1 (xq_c (by decide)) xe_K rfl 1 (by decide) wX1_keep_f17 rfl rfl dX1_keep_18 ?_
  obtain ⟨g_2, hz, hh⟩ := h
  by_cases c7 : (k_rg kv_1 ((k_la kv_1).toNatClampNeg)) < 7
  · refine xr_aald (k := (k_la kv_1).toNatClampNeg) (b := ad (xaS (k_rg kv_1 ((k_la kv_1).toNatClampNeg)))) hx hb hK hP 2 3 (xq_c (by decide)) xe_RG rfl rfl rfl g_2 (xrg_s c7) dX1_keep_21 ?_
    refine lv_ifnonnull (tgt := 41) hx hb dX1_keep_22 (by decide) ?_
    refine W.widen (k := 18) (n := 3323) (Nat.le_of_ble_eq_true rfl) (Nat.le_of_ble_eq_true rfl) ?_
    exact kX1_keep_41 l dC dI ad ci A ns hAD st ln sv kv_1 cu j hj hcu hn1 (ad 0) rfl post C0 H locs ls (hh c7) hP hS hl
  · obtain ⟨n7, hrg, h⟩ := hz c7
    rw [hn1] at n7 hrg h
    refine xr_aaldN (k := (k_la kv_1).toNatClampNeg) hx hb hK hP 2 3 (xq_c (by decide)) xe_RG rfl rfl rfl g_2 (xrg_n c7) dX1_keep_21 ?_
    refine lv_ifnonnullN hx hb dX1_keep_22 ?_
    refine lv_aload_n hx hb dX1_keep_25 rfl (lv_at hl 0 rfl) ?_
    refine xr_get (D := (dC, dI)) (C := RX1) (T := TX1) (N := 3) (v := .ref (ad 2)) hx hb hts wX1_keep_c1 hown hK hP 1 (xq_c (by decide)) xe_K rfl 0 (by decide) wX1_keep_f11 rfl rfl dX1_keep_26 ?_
    refine lv_aload_n hx hb dX1_keep_29 rfl (lv_at hl 0 rfl) ?_
    refine xr_get (D := (dC, dI)) (C := RX1) (T := TX1) (N := 3) (v := .int (k_la kv_1)) hx hb hts wX1_keep_c1 hown hK hP 1 (xq_c (by decide)) xe_K rfl 1 (by decide) wX1_keep_f17 rfl rfl dX1_keep_30 ?_
    have hD := hAD.va (xc ad ci st ln sv kv_1 cu)
    refine va_new (ci := 4) (fs := [.long 0, .long 0, .long 0, .long 0, .int 0, .int 0, .null, .null]) (C := RX4) (T := TX4) (N := 8) hx hb hts wX1_keep_c4 tyX4 tyX4_ok hown (hts (.classLink RX1 9 RX4) (by decide +kernel)) (hts (.instantiable RX4 8) (by decide +kernel)) (hts (.initialized RX4) (by decide +kernel)) hK hP hD hS hA rfl (fun j hj => by rcases (show j = 0 ∨ j = 1 ∨ j = 2 ∨ j = 3 ∨ j = 4 ∨ j = 5 ∨ j = 6 ∨ j = 7 by omega) with rfl | rfl | rfl | rfl | rfl | rfl | rfl | rfl <;> rfl) (show 0 + 1 ≤ 18 by omega) (show 0 + 8 ≤ 3323 by omega) dX1_keep_33 (fun q H hP hD hS => ?_)
    refine lv_dup hx hb dX1_keep_36 rfl ?_
    have hF := A_sub hD hS hA
    have hs0 := hS.1
    refine va_callv (va_runIN (As := []) (rest := [.ref q, .int (k_la kv_1), .ref (ad 2)]) ⟨hx, hb, hml, hown, hts⟩ (nX4_init l dC dI ci q H.size) ⟨va_cnB 0 hts gX1_keep_X4_init_n21 rfl rfl rfl hN.2.2.1 (hts (.initialized RX4) (by decide +kernel)) (by decide +kernel) ⟨Nat.le_of_ble_eq_true rfl, Nat.le_of_ble_eq_true rfl⟩, rfl, hts (.instanceMethod yX4_init) (by decide +kernel)⟩ ⟨cP_blind, cP_pre (last_P hP) hK hN⟩ rfl rfl hl.1 rfl (lv_room (Nat.le_of_ble_eq_true rfl)) dX1_keep_37 ⟨(show 0 + 1 + 17 ≤ 18 by omega), (show 0 + 8 + 3315 ≤ 3323 by omega)⟩) hS (fun x _ hx => hF x hx) hF (fun a t H1 locs ht hvm hwa hB hz1 hk1 hS => ?_)
    obtain ⟨hP, hD⟩ := blk_join hP hD hk1 (x_th ht hB) hwa (fun x hx => hA x (Nat.le_trans hs0 hx))
    obtain ⟨ad', hag, hq, hAD', hP⟩ := x_grow hP hD hcu hrg
    have e2 : ad' 2 = ad 2 := hag 2 (xq_c (by decide))
    have eq1 : q = ad' (xaS ns) := by rw [hq]; exact hwa.1.symm
    obtain ⟨st_2, est_2⟩ : ∃ z : Nat → StV, z = va_up st ns (st0 ns) := ⟨_, rfl⟩
    rw [← est_2] at hP h
    obtain ⟨kv_2, ekv_2⟩ : ∃ z : KvV, z = k_wrg (k_wns kv_1 (ns + 1)) (va_up (k_rg kv_1) ((k_la kv_1).toNatClampNeg) ns) := ⟨_, rfl⟩
    have h := h kv_2 ekv_2
    have hn2 : k_ns kv_2 = ns + 1 := by rw [ekv_2]; rfl
    refine W.eq (g2 := F0 m 40 ls [.ref (ad' (xaS ns)), .int (k_la kv_1), .ref (ad' 2)]) (by rw [e2, ← eq1]) ?_
    refine xr_aast (k := (k_la kv_1).toNatClampNeg) (r := (RX4, TX4, 8)) (g := (xc ad' ci st_2 ln sv kv_2 cu)) hx hb hK hP hAD' hS 2 3 (xaS ns) 4 (xq_c (by decide)) (xq_S (Nat.lt_succ_self ns)) xe_RG rfl (xe_S rfl) rfl rfl g_2 dX1_keep_40 (by rw [ekv_2]; exact fun i hi => xg_krg (nn := xn (ns + 1)) (kv := k_wns kv_1 (ns + 1)) n7 i hi) (fun H locs hP hS => ?_)
    have hl : lv_has ls 2 [(0, .ref (ad' 1)), (1, .ref (ad' (xaS j)))] := by
      rw [hag 1 (xq_c (by decide)), hag _ (xq_S hj)]
      exact hl
    refine W.cs (cells' := 18) (slots' := 3323) rfl rfl ?_
    exact kX1_keep_41 l dC dI ad' ci A (ns + 1) hAD' st_2 ln sv kv_2 cu j (Nat.lt_succ_of_lt hj) (Nat.lt_succ_of_lt hcu) hn2 (ad 0) (hag 0 (xq_c (by decide))) post C0 H locs ls h hP hS hl
abbrev rmX1_takeBack : Room := { frames := 0, cells := 0, slots := 0, locals := 0 }
theorem wX1_takeBack_c1 : ∀ w ∈ u_ws RX1 TX1 3, w ∈ wsX1_takeBack := by decide +kernel
theorem wX1_takeBack_f26 : Cond.fieldLink RX1 26 "DueWheels$Kept" "size" "I" ∈ wsX1_takeBack := by decide +kernel
theorem wX1_takeBack_f17 : Cond.fieldLink RX1 17 "DueWheels$Kept" "latest" "I" ∈ wsX1_takeBack := by decide +kernel
theorem wX1_takeBack_f11 : Cond.fieldLink RX1 11 "DueWheels$Kept" "ring" "[LDueWheels$State;" ∈ wsX1_takeBack := by decide +kernel
def PX1_takeBack (j : Nat) (kv : KvV)  (post : Nat → KvV → Prop) : Prop :=
  vp_in (k_la kv) 6 ∧ (¬ (k_rg kv ((k_la kv).toNatClampNeg)) < 7 → post j kv) ∧ ((k_rg kv ((k_la kv).toNatClampNeg)) < 7 → j < 7 ∧ ∀ kv_4 : KvV, kv_4 = k_wrg kv (va_up (k_rg kv) ((k_la kv).toNatClampNeg) j) → ∀ kv_5 : KvV, kv_5 = k_wla kv_4 ((((k_la kv_4) + (6 : Int32)) - (1 : Int32)) - (((k_la kv_4) + (6 : Int32)) - (1 : Int32)) / (6 : Int32) * (6 : Int32)) → ∀ kv_6 : KvV, kv_6 = k_wsz kv_5 ((k_sz kv_5) - (1 : Int32)) → post (k_rg kv ((k_la kv).toNatClampNeg)) kv_6)
set_option maxHeartbeats 4000000 in
set_option maxRecDepth 100000 in
theorem qX1_takeBack (l : Launch) (dC : Nat → ClassId) (dI : Nat → Nat → Nat) (ad : Nat → Nat) (ci : Nat → ClassId) (A : Nat → Prop) (ns : Nat) (hAD : xw_D (xn ns) ad A) (st : Nat → StV) (ln : Nat → LnV) (sv : SvV) (kv : KvV) (cu : Nat) (j : Nat) (hj : j < ns) (hns : k_ns kv = ns) (post : Nat → KvV → Prop) (h : PX1_takeBack j kv post) : Met l yX1_takeBack wsX1_takeBack rmX1_takeBack (va_Pc [.ref (ad 1), .ref (ad (xaS j))] (fun U => va_P (dC, dI) vwCl (xw (xn ns) ad (xc ad ci st ln sv kv cu)) U.heap ∧ va_K (dC, dI) vwCl (xT ci) U)) (va_Qr (fun u : Nat × (KvV) => post u.1 (u.2)) (fun u a t => a = ad (xaS u.1) ∧ k_ns u.2 = ns ∧ va_P (dC, dI) vwCl (xw (xn ns) ad (xc ad ci st ln sv (u.2) cu)) t.heap) A) 0 0 A := by
  refine Met.ofW (cc := cX1_takeBack) (maxL := 3) (ret := (some (.object "DueWheels$State"))) (by decide) rfl ?_
  intro p e s m args below meth c s₁ B hml hv
  obtain ⟨eargs, hP, hK⟩ := hv
  have C0 : xC p s m args meth c cX1_takeBack 3 (some (.object "DueWheels$State")) RX1 wsX1_takeBack (dC, dI) (xT ci) := ⟨B.exec, B.bytes, hml, B.returns, B.notSynchronized, findClass_of_methodNamed B.named, atoms_spec (ws := wsX1_takeBack) B.pre, hK⟩
  obtain ⟨hx, hb, -, hr, hlocks, hown, hts, -⟩ := id C0
  have hS : va_S A s.heap s.heap [] := va_S.rf
  have hl := lv_entry ([.ref (ad 1), .ref (ad (xaS j))]) (n := 3) (Nat.le_of_ble_eq_true rfl)
  have ef : entryFrame m args 3 = entryFrame m ([.ref (ad 1), .ref (ad (xaS j))] : List Value).toArray 3 := by rw [eargs]
  rw [ef, lg_entry_eq]
  generalize (lg_sl ([.ref (ad 1), .ref (ad (xaS j))]) ++ List.replicate (3 - (lg_sl ([.ref (ad 1), .ref (ad (xaS j))])).length) Slot.unset).toArray = ls at hl ⊢
  have hl : lv_has ls 3 [(0, .ref (ad 1)), (1, .ref (ad (xaS j)))] := hl
  have hP : va_P (dC, dI) vwCl (xw (xn ns) ad (xc ad ci st ln sv kv cu)) s.heap := hP
  unfold PX1_takeBack at h
  refine lv_aload_n hx hb dX1_takeBack_0 rfl (lv_at hl 0 rfl) ?_
  refine xr_get (D := (dC, dI)) (C := RX1) (T := TX1) (N := 3) (v := .ref (ad 2)) hx hb hts wX1_takeBack_c1 hown hK hP 1 (xq_c (by decide)) xe_K rfl 0 (by decide) wX1_takeBack_f11 rfl rfl dX1_takeBack_1 ?_
  refine lv_aload_n hx hb dX1_takeBack_4 rfl (lv_at hl 0 rfl) ?_
  refine xr_get (D := (dC, dI)) (C := RX1) (T := TX1) (N := 3) (v := .int (k_la kv)) hx hb hts wX1_takeBack_c1 hown hK hP 1 (xq_c (by decide)) xe_K rfl 1 (by decide) wX1_takeBack_f17 rfl rfl dX1_takeBack_5 ?_
  obtain ⟨g_1, hz, hh⟩ := h
  by_cases c7 : (k_rg kv ((k_la kv).toNatClampNeg)) < 7
  · obtain ⟨j7, h⟩ := hh c7
    refine xr_aald (k := (k_la kv).toNatClampNeg) (b := ad (xaS (k_rg kv ((k_la kv).toNatClampNeg)))) hx hb hK hP 2 3 (xq_c (by decide)) xe_RG rfl rfl rfl g_1 (xrg_s c7) dX1_takeBack_8 ?_
    refine lv_astore_n (lv' := [(2, .ref (ad (xaS (k_rg kv ((k_la kv).toNatClampNeg))))), (0, .ref (ad 1)), (1, .ref (ad (xaS j)))]) hx hb dX1_takeBack_9 rfl hl (by decide) rfl (fun ls hl => ?_)
    refine lv_aload_n hx hb dX1_takeBack_10 rfl (lv_at hl 0 rfl) ?_
    refine lv_ifnonnull (tgt := 16) hx hb dX1_takeBack_11 (by decide) ?_
    refine lv_aload_n hx hb dX1_takeBack_16 rfl (lv_at hl 1 rfl) ?_
    refine xr_get (D := (dC, dI)) (C := RX1) (T := TX1) (N := 3) (v := .ref (ad 2)) hx hb hts wX1_takeBack_c1 hown hK hP 1 (xq_c (by decide)) xe_K rfl 0 (by decide) wX1_takeBack_f11 rfl rfl dX1_takeBack_17 ?_
    refine lv_aload_n hx hb dX1_takeBack_20 rfl (lv_at hl 1 rfl) ?_
    refine xr_get (D := (dC, dI)) (C := RX1) (T := TX1) (N := 3) (v := .int (k_la kv)) hx hb hts wX1_takeBack_c1 hown hK hP 1 (xq_c (by decide)) xe_K rfl 1 (by decide) wX1_takeBack_f17 rfl rfl dX1_takeBack_21 ?_
    refine lv_aload_n hx hb dX1_takeBack_24 rfl (lv_at hl 2 rfl) ?_
    obtain ⟨kv_4, ekv_4⟩ : ∃ z : KvV, z = k_wrg kv (va_up (k_rg kv) ((k_la kv).toNatClampNeg) j) := ⟨_, rfl⟩
    have h := h kv_4 ekv_4
    refine xr_aast (k := (k_la kv).toNatClampNeg) (r := (RX4, TX4, 8)) (g := (xc ad ci st ln sv kv_4 cu)) hx hb hK hP hAD hS 2 3 (xaS j) 4 (xq_c (by decide)) (xq_S hj) xe_RG rfl (xe_S rfl) rfl rfl g_1 dX1_takeBack_25 (by rw [ekv_4]; exact xg_krg j7) (fun H locs hP hS => ?_)
    refine lv_aload_n hx hb dX1_takeBack_26 rfl (lv_at hl 1 rfl) ?_
    refine lv_aload_n hx hb dX1_takeBack_27 rfl (lv_at hl 1 rfl) ?_
    refine xr_get (D := (dC, dI)) (C := RX1) (T := TX1) (N := 3) (v := .int (k_la kv_4)) hx hb hts wX1_takeBack_c1 hown hK hP 1 (xq_c (by decide)) xe_K rfl 1 (by decide) wX1_takeBack_f17 rfl rfl dX1_takeBack_28 ?_
    refine lv_bipush (v := (6 : Int32)) hx hb dX1_takeBack_31 (by decide) ?_
    refine lv_iadd hx hb dX1_takeBack_33 ?_
    refine lv_iconst (v := (1 : Int32)) hx hb dX1_takeBack_34 (by decide) ?_
    refine lv_isub hx hb dX1_takeBack_35 ?_
    refine lv_bipush (v := (6 : Int32)) hx hb dX1_takeBack_36 (by decide) ?_
    refine lv_irem hx hb dX1_takeBack_38 (by decide) ?_
    obtain ⟨kv_5, ekv_5⟩ : ∃ z : KvV, z = k_wla kv_4 ((((k_la kv_4) + (6 : Int32)) - (1 : Int32)) - (((k_la kv_4) + (6 : Int32)) - (1 : Int32)) / (6 : Int32) * (6 : Int32)) := ⟨_, rfl⟩
    have h := h kv_5 ekv_5
    refine xr_put (D := (dC, dI)) (C := RX1) (T := TX1) (N := 3) (ty := .int) (v := .int ((((k_la kv_4) + (6 : Int32)) - (1 : Int32)) - (((k_la kv_4) + (6 : Int32)) - (1 : Int32)) / (6 : Int32) * (6 : Int32))) (g := (xc ad ci st ln sv kv_5 cu)) hx hb hts wX1_takeBack_c1 tyX1 tyX1_ok nmX1 hown hK hP hAD hS 1 (xq_c (by decide)) xe_K rfl 1 (by decide) wX1_takeBack_f17 rfl rfl (by decide +kernel) rfl rfl (Nat.le_of_ble_eq_true rfl) dX1_takeBack_39 (by rw [ekv_5]; exact xg_kla) (fun H locs hP hS => ?_)
    refine lv_aload_n hx hb dX1_takeBack_42 rfl (lv_at hl 1 rfl) ?_
    refine lv_dup hx hb dX1_takeBack_43 rfl ?_
    refine xr_get (D := (dC, dI)) (C := RX1) (T := TX1) (N := 3) (v := .int (k_sz kv_5)) hx hb hts wX1_takeBack_c1 hown hK hP 1 (xq_c (by decide)) xe_K rfl 2 (by decide) wX1_takeBack_f26 rfl rfl dX1_takeBack_44 ?_
    refine lv_iconst (v := (1 : Int32)) hx hb dX1_takeBack_47 (by decide) ?_
    refine lv_isub hx hb dX1_takeBack_48 ?_
    obtain ⟨kv_6, ekv_6⟩ : ∃ z : KvV, z = k_wsz kv_5 ((k_sz kv_5) - (1 : Int32)) := ⟨_, rfl⟩
    have h := h kv_6 ekv_6
    have hn6 : k_ns kv_6 = ns := by rw [ekv_6, ekv_5, ekv_4]; exact hns
    refine xr_put (D := (dC, dI)) (C := RX1) (T := TX1) (N := 3) (ty := .int) (v := .int ((k_sz kv_5) - (1 : Int32))) (g := (xc ad ci st ln sv kv_6 cu)) hx hb hts wX1_takeBack_c1 tyX1 tyX1_ok nmX1 hown hK hP hAD hS 1 (xq_c (by decide)) xe_K rfl 2 (by decide) wX1_takeBack_f26 rfl rfl (by decide +kernel) rfl rfl (Nat.le_of_ble_eq_true rfl) dX1_takeBack_49 (by rw [ekv_6]; exact xg_ksz) (fun H locs hP hS => ?_)
    refine lv_aload_n hx hb dX1_takeBack_52 rfl (lv_at hl 0 rfl) ?_
    exact W.aret (v := .ref (ad (xaS (k_rg kv ((k_la kv).toNatClampNeg))))) hx hb hr (Or.inl ⟨_, rfl⟩) (Or.inr ⟨_, rfl⟩) (fun t ht hW => ⟨⟨((k_rg kv ((k_la kv).toNatClampNeg)), kv_6), _, rfl, h, rfl, hn6, x_ht ht hP⟩, hS.F ht⟩) hS.2.2 dX1_takeBack_53
  · have h := hz c7
    refine xr_aaldN (k := (k_la kv).toNatClampNeg) hx hb hK hP 2 3 (xq_c (by decide)) xe_RG rfl rfl rfl g_1 (xrg_n c7) dX1_takeBack_8 ?_
    refine lv_astore_nN (lv' := [(2, .null), (0, .ref (ad 1)), (1, .ref (ad (xaS j)))]) hx hb dX1_takeBack_9 rfl hl (by decide) rfl (fun ls hl => ?_)
    refine lv_aload_nN hx hb dX1_takeBack_10 rfl (lv_at hl 0 rfl) ?_
    refine lv_ifnonnullN hx hb dX1_takeBack_11 ?_
    refine lv_aload_n hx hb dX1_takeBack_14 rfl (lv_at hl 2 rfl) ?_
    exact W.aret (v := .ref (ad (xaS j))) hx hb hr (Or.inl ⟨_, rfl⟩) (Or.inr ⟨_, rfl⟩) (fun t ht hW => ⟨⟨(j, kv), _, rfl, h, rfl, hns, x_ht ht hP⟩, hS.F ht⟩) hS.2.2 dX1_takeBack_15
