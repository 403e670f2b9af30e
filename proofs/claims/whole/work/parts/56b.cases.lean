set_option maxHeartbeats 4000000 in
set_option maxRecDepth 100000 in
theorem lc_shift {p : Program} {e : Env} {s : State} {m : MethodId} {below : List Frame} {meth : Method} {c : Code} (l : Launch) {b L : Nat} {xs : Nat → Int32} (hL : L ≤ 3584) (C0 : lw_At p s m meth c b L xs) {dC : Nat → ClassId} {dI : Nat → Nat → Nat} {a0 : Nat} {ci : Nat → ClassId} {am : Nat → Nat} (G0 : LC s dC dI ci am) {i u v : Nat} (hu : u + 18 ≤ 600000) (hv : v + 3323 ≤ 7302250) (hi : i + 7 ≤ L) {H : Heap} {locs : List Loc} {ls : Array Slot} (hX : LX s dC dI a0 ci am H locs) (hl : lv_has ls 4 [(0, .ref b), (1, .ref a0), (2, .ref (am 0)), (3, .int (nI i))]) (kk : ∀ (H : Heap) (locs : List Loc), LX s dC dI a0 ci am H locs → W p l e room_1 s m #[Value.ref b] below meth c H locs (u + 18) (v + 3323) (lw_Z below #[Value.ref b] s) (F0 m 1216 ls [])) : W p l e room_1 s m #[Value.ref b] below meth c H locs u v (lw_Z below #[Value.ref b] s) (F0 m 684 ls []) := by
  obtain ⟨hx, hb, hr, hml, hown, hts0, hXs, hbl, hlocks, hgv⟩ := id C0
  have hts : ∀ w ∈ wsL_law, w.before #[Value.ref b] s = true := fun w h => hts0 w (wsL_law_in w h)
  have hown : s.vm.findClass RL = some m.cls := hown
  obtain ⟨hK, hN, g3, g4⟩ := id G0
  obtain ⟨Z, st, ln, sv, kv, cu, r, hKI, hMK, hIZ, hB0, hPm, hS⟩ := hX
  have hbA : ¬ (fun q : Nat => s.heap.size ≤ q) b := Nat.not_le.mpr hbl
  have fA : ∀ q, Ac s am q → (fun q : Nat => s.heap.size ≤ q) q := fun q h => h.1
  have fM : ∀ q, Ax 7 am q → (fun q : Nat => s.heap.size ≤ q) q := fun q ⟨k, h1, h2⟩ => by rw [h2]; exact g4 k h1
  refine lv_aload_n hx hb dL_law_684 rfl (lv_at hl 1 rfl) ?_
  refine lv_aload_n hx hb dL_law_685 rfl (lv_at hl 0 rfl) ?_
  refine lv_iload_n hx hb dL_law_686 rfl (lv_at hl 3 rfl) ?_
  refine lv_iconst (v := (1 : Int32)) hx hb dL_law_687 (by decide) ?_
  refine lv_iadd hx hb dL_law_688 ?_
  refine va_sld hx hb hXs hbl hbA hS (s_in hi hL 1 rfl (by omega)) dL_law_689 ?_
  refine lv_aload_n hx hb dL_law_690 rfl (lv_at hl 0 rfl) ?_
  refine lv_iload_n hx hb dL_law_691 rfl (lv_at hl 3 rfl) ?_
  refine lv_iconst (v := (2 : Int32)) hx hb dL_law_692 (by decide) ?_
  refine lv_iadd hx hb dL_law_693 ?_
  refine va_sld hx hb hXs hbl hbA hS (s_in hi hL 2 rfl (by omega)) dL_law_694 ?_
  refine lv_i2l hx hb dL_law_695 rfl ?_
  refine lv_bipush (v := (32 : Int32)) hx hb dL_law_696 (by decide) ?_
  refine lv_lshl hx hb dL_law_698 rfl ?_
  refine lv_aload_n hx hb dL_law_699 rfl (lv_at hl 0 rfl) ?_
  refine lv_iload_n hx hb dL_law_700 rfl (lv_at hl 3 rfl) ?_
  refine lv_iconst (v := (3 : Int32)) hx hb dL_law_701 (by decide) ?_
  refine lv_iadd hx hb dL_law_702 ?_
  refine va_sld hx hb hXs hbl hbA hS (s_in hi hL 3 rfl (by omega)) dL_law_703 ?_
  refine lv_i2l hx hb dL_law_704 rfl ?_
  refine lv_ldc2 (v := (4294967295 : Int64)) hx hb hown (hts _ wL_k13) dL_law_705 ?_
  refine lv_land hx hb dL_law_708 ?_
  refine lv_lor hx hb dL_law_709 ?_
  have hq : PX6_shift st kv cu (sI xs i 1) (sJ xs i 2 3) (fun (r9 : Int64) (st' : Nat → StV) (kv' : KvV) => r9 = (zShift Z (sI xs i 1) (sJ xs i 2 3)).1 ∧ KI st' kv' cu (zShift Z (sI xs i 1) (sJ xs i 2 3)).2) := cShift hKI hIZ.1 (post := (fun (r9 : Int64) (st' : Nat → StV) (kv' : KvV) => r9 = (zShift Z (sI xs i 1) (sJ xs i 2 3)).1 ∧ KI st' kv' cu (zShift Z (sI xs i 1) (sJ xs i 2 3)).2)) (fun st' kv' hk => ⟨rfl, hk⟩)
  refine va_calll (va_runV (As := [.int (sI xs i 1), .long (sJ xs i 2 3)]) (rest := []) ⟨hx, hb, hml, hown, hts⟩ (qX6_shift l dC dI ci (Ac s am) a0 st ln sv kv cu (sI xs i 1) (sJ xs i 2 3) _ hq) (cwV 2 hts gL_law_X6_shift rfl rfl rfl (by decide +kernel) ⟨Nat.le_of_ble_eq_true rfl, Nat.le_of_ble_eq_true rfl⟩) ⟨xk_blind, xB_recv hK hB0, xk_pre hB0 hK hN (newA hS.1 hPm)⟩ rfl rfl hl.1 rfl (lv_room (Nat.le_of_ble_eq_true rfl)) dL_law_710 ⟨(show u + 18 ≤ 600000 by omega), (show v + 3323 ≤ 7302250 by omega)⟩) hS (fun q _ h => fA q h) fA (fun ra u9 t9 H1 locs1 ht hvm hwA hB _ hk1 hS1 => ?_)
  refine W.cs (cells' := u + 18) (slots' := v + 3323) rfl rfl ?_
  obtain ⟨st1, kv1⟩ := u9
  have hB1 := xB_th ht hB
  have hPm := keepA hPm hk1
  have hS := hS1
  refine lv_aload_n hx hb dL_law_713 rfl (lv_at hl 2 rfl) ?_
  refine lv_aload_n hx hb dL_law_714 rfl (lv_at hl 0 rfl) ?_
  refine lv_iload_n hx hb dL_law_715 rfl (lv_at hl 3 rfl) ?_
  refine lv_iconst (v := (1 : Int32)) hx hb dL_law_716 (by decide) ?_
  refine lv_iadd hx hb dL_law_717 ?_
  refine va_sld hx hb hXs hbl hbA hS (s_in hi hL 1 rfl (by omega)) dL_law_718 ?_
  refine lv_aload_n hx hb dL_law_719 rfl (lv_at hl 0 rfl) ?_
  refine lv_iload_n hx hb dL_law_720 rfl (lv_at hl 3 rfl) ?_
  refine lv_iconst (v := (2 : Int32)) hx hb dL_law_721 (by decide) ?_
  refine lv_iadd hx hb dL_law_722 ?_
  refine va_sld hx hb hXs hbl hbA hS (s_in hi hL 2 rfl (by omega)) dL_law_723 ?_
  refine lv_i2l hx hb dL_law_724 rfl ?_
  refine lv_bipush (v := (32 : Int32)) hx hb dL_law_725 (by decide) ?_
  refine lv_lshl hx hb dL_law_727 rfl ?_
  refine lv_aload_n hx hb dL_law_728 rfl (lv_at hl 0 rfl) ?_
  refine lv_iload_n hx hb dL_law_729 rfl (lv_at hl 3 rfl) ?_
  refine lv_iconst (v := (3 : Int32)) hx hb dL_law_730 (by decide) ?_
  refine lv_iadd hx hb dL_law_731 ?_
  refine va_sld hx hb hXs hbl hbA hS (s_in hi hL 3 rfl (by omega)) dL_law_732 ?_
  refine lv_i2l hx hb dL_law_733 rfl ?_
  refine lv_ldc2 (v := (4294967295 : Int64)) hx hb hown (hts _ wL_k13) dL_law_734 ?_
  refine lv_land hx hb dL_law_737 ?_
  refine lv_lor hx hb dL_law_738 ?_
  have hq2 : PX7_shift r (sI xs i 1) (sJ xs i 2 3) (fun (r9 : Int64) (r' : MmV) => r9 = (zShift Z (sI xs i 1) (sJ xs i 2 3)).1 ∧ MK r' (zShift Z (sI xs i 1) (sJ xs i 2 3)).2) := mShift hMK (post := (fun (r9 : Int64) (r' : MmV) => r9 = (zShift Z (sI xs i 1) (sJ xs i 2 3)).1 ∧ MK r' (zShift Z (sI xs i 1) (sJ xs i 2 3)).2)) (fun r' hk => ⟨rfl, hk⟩)
  refine va_calll (va_runV (As := [.int (sI xs i 1), .long (sJ xs i 2 3)]) (rest := [.long ra]) ⟨hx, hb, hml, hown, hts⟩ (qX7_shift l dC dI am ci (Ax 7 am) (Ax_D g3) r (sI xs i 1) (sJ xs i 2 3) _ hq2) (cwV 2 hts gL_law_X7_shift rfl rfl rfl (by decide +kernel) ⟨Nat.le_of_ble_eq_true rfl, Nat.le_of_ble_eq_true rfl⟩) ⟨xr_blind, xr_recv (r := (RX7, TX7, 9)) hK hPm 0 (by decide) me_M rfl, xr_pre hPm hK⟩ rfl rfl hl.1 rfl (lv_room (Nat.le_of_ble_eq_true rfl)) dL_law_739 ⟨(show u + 18 + 0 ≤ 600000 by omega), (show v + 3323 + 0 ≤ 7302250 by omega)⟩) hS (fun q _ h => fM q h) fM (fun rb r1 t9 H2 locs2 ht hvm hwB hB _ hk2 hS2 => ?_)
  refine W.cs (cells' := u + 18) (slots' := v + 3323) rfl rfl ?_
  have hP2 := x_th ht hB
  have hB1 := xB_keep hB1 hk2
  exact xr_if_lcmp_eq (tgt := 1216) hx hb dL_law_742 dL_law_743 (by decide) (fun _ => kk H2 locs2 ⟨(zShift Z (sI xs i 1) (sJ xs i 2 3)).2, st1, ln, sv, kv1, cu, r1, hwA.2, hwB.2, zShift_I hIZ (sI xs i 1) (sJ xs i 2 3), hB1, hP2, hS2⟩) (fun q => absurd ((hwA.1).trans (hwB.1).symm) q)
set_option maxHeartbeats 4000000 in
set_option maxRecDepth 100000 in
theorem lc_chain {p : Program} {e : Env} {s : State} {m : MethodId} {below : List Frame} {meth : Method} {c : Code} (l : Launch) {b L : Nat} {xs : Nat → Int32} (hL : L ≤ 3584) (C0 : lw_At p s m meth c b L xs) {dC : Nat → ClassId} {dI : Nat → Nat → Nat} {a0 : Nat} {ci : Nat → ClassId} {am : Nat → Nat} (G0 : LC s dC dI ci am) {i u v : Nat} (hu : u + 18 ≤ 600000) (hv : v + 3323 ≤ 7302250) (hi : i + 7 ≤ L) {H : Heap} {locs : List Loc} {ls : Array Slot} (hX : LX s dC dI a0 ci am H locs) (hl : lv_has ls 4 [(0, .ref b), (1, .ref a0), (2, .ref (am 0)), (3, .int (nI i))]) (kk : ∀ (H : Heap) (locs : List Loc), LX s dC dI a0 ci am H locs → W p l e room_1 s m #[Value.ref b] below meth c H locs (u + 18) (v + 3323) (lw_Z below #[Value.ref b] s) (F0 m 1216 ls [])) : W p l e room_1 s m #[Value.ref b] below meth c H locs u v (lw_Z below #[Value.ref b] s) (F0 m 748 ls []) := by
  obtain ⟨hx, hb, hr, hml, hown, hts0, hXs, hbl, hlocks, hgv⟩ := id C0
  have hts : ∀ w ∈ wsL_law, w.before #[Value.ref b] s = true := fun w h => hts0 w (wsL_law_in w h)
  have hown : s.vm.findClass RL = some m.cls := hown
  obtain ⟨hK, hN, g3, g4⟩ := id G0
  obtain ⟨Z, st, ln, sv, kv, cu, r, hKI, hMK, hIZ, hB0, hPm, hS⟩ := hX
  have hbA : ¬ (fun q : Nat => s.heap.size ≤ q) b := Nat.not_le.mpr hbl
  have fA : ∀ q, Ac s am q → (fun q : Nat => s.heap.size ≤ q) q := fun q h => h.1
  have fM : ∀ q, Ax 7 am q → (fun q : Nat => s.heap.size ≤ q) q := fun q ⟨k, h1, h2⟩ => by rw [h2]; exact g4 k h1
  refine lv_aload_n hx hb dL_law_748 rfl (lv_at hl 1 rfl) ?_
  refine lv_aload_n hx hb dL_law_749 rfl (lv_at hl 0 rfl) ?_
  refine lv_iload_n hx hb dL_law_750 rfl (lv_at hl 3 rfl) ?_
  refine lv_iconst (v := (1 : Int32)) hx hb dL_law_751 (by decide) ?_
  refine lv_iadd hx hb dL_law_752 ?_
  refine va_sld hx hb hXs hbl hbA hS (s_in hi hL 1 rfl (by omega)) dL_law_753 ?_
  refine lv_aload_n hx hb dL_law_754 rfl (lv_at hl 0 rfl) ?_
  refine lv_iload_n hx hb dL_law_755 rfl (lv_at hl 3 rfl) ?_
  refine lv_iconst (v := (2 : Int32)) hx hb dL_law_756 (by decide) ?_
  refine lv_iadd hx hb dL_law_757 ?_
  refine va_sld hx hb hXs hbl hbA hS (s_in hi hL 2 rfl (by omega)) dL_law_758 ?_
  have hq : PX6_chain st kv cu (sI xs i 1) (sI xs i 2) (fun (r9 : Int64) (st' : Nat → StV) (kv' : KvV) => r9 = (zChain Z (sI xs i 1) (sI xs i 2)).1 ∧ KI st' kv' cu (zChain Z (sI xs i 1) (sI xs i 2)).2) := cChain hKI hIZ.1 (post := (fun (r9 : Int64) (st' : Nat → StV) (kv' : KvV) => r9 = (zChain Z (sI xs i 1) (sI xs i 2)).1 ∧ KI st' kv' cu (zChain Z (sI xs i 1) (sI xs i 2)).2)) (fun st' kv' hk => ⟨rfl, hk⟩)
  refine va_calll (va_runV (As := [.int (sI xs i 1), .int (sI xs i 2)]) (rest := []) ⟨hx, hb, hml, hown, hts⟩ (qX6_chain l dC dI ci (Ac s am) a0 st ln sv kv cu (sI xs i 1) (sI xs i 2) _ hq) (cwV 2 hts gL_law_X6_chain rfl rfl rfl (by decide +kernel) ⟨Nat.le_of_ble_eq_true rfl, Nat.le_of_ble_eq_true rfl⟩) ⟨xk_blind, xB_recv hK hB0, xk_pre hB0 hK hN (newA hS.1 hPm)⟩ rfl rfl hl.1 rfl (lv_room (Nat.le_of_ble_eq_true rfl)) dL_law_759 ⟨(show u + 18 ≤ 600000 by omega), (show v + 3323 ≤ 7302250 by omega)⟩) hS (fun q _ h => fA q h) fA (fun ra u9 t9 H1 locs1 ht hvm hwA hB _ hk1 hS1 => ?_)
  refine W.cs (cells' := u + 18) (slots' := v + 3323) rfl rfl ?_
  obtain ⟨st1, kv1⟩ := u9
  have hB1 := xB_th ht hB
  have hPm := keepA hPm hk1
  have hS := hS1
  refine lv_aload_n hx hb dL_law_762 rfl (lv_at hl 2 rfl) ?_
  refine lv_aload_n hx hb dL_law_763 rfl (lv_at hl 0 rfl) ?_
  refine lv_iload_n hx hb dL_law_764 rfl (lv_at hl 3 rfl) ?_
  refine lv_iconst (v := (1 : Int32)) hx hb dL_law_765 (by decide) ?_
  refine lv_iadd hx hb dL_law_766 ?_
  refine va_sld hx hb hXs hbl hbA hS (s_in hi hL 1 rfl (by omega)) dL_law_767 ?_
  refine lv_aload_n hx hb dL_law_768 rfl (lv_at hl 0 rfl) ?_
  refine lv_iload_n hx hb dL_law_769 rfl (lv_at hl 3 rfl) ?_
  refine lv_iconst (v := (2 : Int32)) hx hb dL_law_770 (by decide) ?_
  refine lv_iadd hx hb dL_law_771 ?_
  refine va_sld hx hb hXs hbl hbA hS (s_in hi hL 2 rfl (by omega)) dL_law_772 ?_
  have hq2 : PX7_chain r (sI xs i 1) (sI xs i 2) (fun (r9 : Int64) (r' : MmV) => r9 = (zChain Z (sI xs i 1) (sI xs i 2)).1 ∧ MK r' (zChain Z (sI xs i 1) (sI xs i 2)).2) := mChain hMK hIZ.1 (post := (fun (r9 : Int64) (r' : MmV) => r9 = (zChain Z (sI xs i 1) (sI xs i 2)).1 ∧ MK r' (zChain Z (sI xs i 1) (sI xs i 2)).2)) (fun r' hk => ⟨rfl, hk⟩)
  refine va_calll (va_runV (As := [.int (sI xs i 1), .int (sI xs i 2)]) (rest := [.long ra]) ⟨hx, hb, hml, hown, hts⟩ (qX7_chain l dC dI am ci (Ax 7 am) (Ax_D g3) r (sI xs i 1) (sI xs i 2) _ hq2) (cwV 2 hts gL_law_X7_chain rfl rfl rfl (by decide +kernel) ⟨Nat.le_of_ble_eq_true rfl, Nat.le_of_ble_eq_true rfl⟩) ⟨xr_blind, xr_recv (r := (RX7, TX7, 9)) hK hPm 0 (by decide) me_M rfl, xr_pre hPm hK⟩ rfl rfl hl.1 rfl (lv_room (Nat.le_of_ble_eq_true rfl)) dL_law_773 ⟨(show u + 18 + 0 ≤ 600000 by omega), (show v + 3323 + 0 ≤ 7302250 by omega)⟩) hS (fun q _ h => fM q h) fM (fun rb r1 t9 H2 locs2 ht hvm hwB hB _ hk2 hS2 => ?_)
  refine W.cs (cells' := u + 18) (slots' := v + 3323) rfl rfl ?_
  have hP2 := x_th ht hB
  have hB1 := xB_keep hB1 hk2
  exact xr_if_lcmp_eq (tgt := 1216) hx hb dL_law_776 dL_law_777 (by decide) (fun _ => kk H2 locs2 ⟨(zChain Z (sI xs i 1) (sI xs i 2)).2, st1, ln, sv, kv1, cu, r1, hwA.2, hwB.2, zChain_I hIZ (sI xs i 1) (sI xs i 2), hB1, hP2, hS2⟩) (fun q => absurd ((hwA.1).trans (hwB.1).symm) q)
set_option maxHeartbeats 4000000 in
set_option maxRecDepth 100000 in
theorem lc_rest {p : Program} {e : Env} {s : State} {m : MethodId} {below : List Frame} {meth : Method} {c : Code} (l : Launch) {b L : Nat} {xs : Nat → Int32} (hL : L ≤ 3584) (C0 : lw_At p s m meth c b L xs) {dC : Nat → ClassId} {dI : Nat → Nat → Nat} {a0 : Nat} {ci : Nat → ClassId} {am : Nat → Nat} (G0 : LC s dC dI ci am) {i u v : Nat} (hu : u + 18 ≤ 600000) (hv : v + 3323 ≤ 7302250) (hi : i + 7 ≤ L) {H : Heap} {locs : List Loc} {ls : Array Slot} (hX : LX s dC dI a0 ci am H locs) (hl : lv_has ls 4 [(0, .ref b), (1, .ref a0), (2, .ref (am 0)), (3, .int (nI i))]) (kk : ∀ (H : Heap) (locs : List Loc), LX s dC dI a0 ci am H locs → W p l e room_1 s m #[Value.ref b] below meth c H locs (u + 18) (v + 3323) (lw_Z below #[Value.ref b] s) (F0 m 1216 ls [])) : W p l e room_1 s m #[Value.ref b] below meth c H locs u v (lw_Z below #[Value.ref b] s) (F0 m 782 ls []) := by
  obtain ⟨hx, hb, hr, hml, hown, hts0, hXs, hbl, hlocks, hgv⟩ := id C0
  have hts : ∀ w ∈ wsL_law, w.before #[Value.ref b] s = true := fun w h => hts0 w (wsL_law_in w h)
  have hown : s.vm.findClass RL = some m.cls := hown
  obtain ⟨hK, hN, g3, g4⟩ := id G0
  obtain ⟨Z, st, ln, sv, kv, cu, r, hKI, hMK, hIZ, hB0, hPm, hS⟩ := hX
  have hbA : ¬ (fun q : Nat => s.heap.size ≤ q) b := Nat.not_le.mpr hbl
  have fA : ∀ q, Ac s am q → (fun q : Nat => s.heap.size ≤ q) q := fun q h => h.1
  have fM : ∀ q, Ax 7 am q → (fun q : Nat => s.heap.size ≤ q) q := fun q ⟨k, h1, h2⟩ => by rw [h2]; exact g4 k h1
  refine lv_aload_n hx hb dL_law_782 rfl (lv_at hl 1 rfl) ?_
  refine lv_aload_n hx hb dL_law_783 rfl (lv_at hl 0 rfl) ?_
  refine lv_iload_n hx hb dL_law_784 rfl (lv_at hl 3 rfl) ?_
  refine lv_iconst (v := (1 : Int32)) hx hb dL_law_785 (by decide) ?_
  refine lv_iadd hx hb dL_law_786 ?_
  refine va_sld hx hb hXs hbl hbA hS (s_in hi hL 1 rfl (by omega)) dL_law_787 ?_
  have hq : PX6_rest st kv cu (sI xs i 1) (fun (r9 : Int64) (st' : Nat → StV) (kv' : KvV) => r9 = (zRest Z (sI xs i 1)).1 ∧ KI st' kv' cu (zRest Z (sI xs i 1)).2) := cRest hKI (post := (fun (r9 : Int64) (st' : Nat → StV) (kv' : KvV) => r9 = (zRest Z (sI xs i 1)).1 ∧ KI st' kv' cu (zRest Z (sI xs i 1)).2)) (fun st' kv' hk => ⟨rfl, hk⟩)
  refine va_calll (va_runV (As := [.int (sI xs i 1)]) (rest := []) ⟨hx, hb, hml, hown, hts⟩ (qX6_rest l dC dI ci (Ac s am) a0 st ln sv kv cu (sI xs i 1) _ hq) (cwV 1 hts gL_law_X6_rest rfl rfl rfl (by decide +kernel) ⟨Nat.le_of_ble_eq_true rfl, Nat.le_of_ble_eq_true rfl⟩) ⟨xk_blind, xB_recv hK hB0, xk_pre hB0 hK hN (newA hS.1 hPm)⟩ rfl rfl hl.1 rfl (lv_room (Nat.le_of_ble_eq_true rfl)) dL_law_788 ⟨(show u + 18 ≤ 600000 by omega), (show v + 3323 ≤ 7302250 by omega)⟩) hS (fun q _ h => fA q h) fA (fun ra u9 t9 H1 locs1 ht hvm hwA hB _ hk1 hS1 => ?_)
  refine W.cs (cells' := u + 18) (slots' := v + 3323) rfl rfl ?_
  obtain ⟨st1, kv1⟩ := u9
  have hB1 := xB_th ht hB
  have hPm := keepA hPm hk1
  have hS := hS1
  refine lv_aload_n hx hb dL_law_791 rfl (lv_at hl 2 rfl) ?_
  refine lv_aload_n hx hb dL_law_792 rfl (lv_at hl 0 rfl) ?_
  refine lv_iload_n hx hb dL_law_793 rfl (lv_at hl 3 rfl) ?_
  refine lv_iconst (v := (1 : Int32)) hx hb dL_law_794 (by decide) ?_
  refine lv_iadd hx hb dL_law_795 ?_
  refine va_sld hx hb hXs hbl hbA hS (s_in hi hL 1 rfl (by omega)) dL_law_796 ?_
  have hq2 : PX7_rest r (sI xs i 1) (fun (r9 : Int64) (r' : MmV) => r9 = (zRest Z (sI xs i 1)).1 ∧ MK r' (zRest Z (sI xs i 1)).2) := mRest hMK (post := (fun (r9 : Int64) (r' : MmV) => r9 = (zRest Z (sI xs i 1)).1 ∧ MK r' (zRest Z (sI xs i 1)).2)) (fun r' hk => ⟨rfl, hk⟩)
  refine va_calll (va_runV (As := [.int (sI xs i 1)]) (rest := [.long ra]) ⟨hx, hb, hml, hown, hts⟩ (qX7_rest l dC dI am ci (Ax 7 am) (Ax_D g3) r (sI xs i 1) _ hq2) (cwV 1 hts gL_law_X7_rest rfl rfl rfl (by decide +kernel) ⟨Nat.le_of_ble_eq_true rfl, Nat.le_of_ble_eq_true rfl⟩) ⟨xr_blind, xr_recv (r := (RX7, TX7, 9)) hK hPm 0 (by decide) me_M rfl, xr_pre hPm hK⟩ rfl rfl hl.1 rfl (lv_room (Nat.le_of_ble_eq_true rfl)) dL_law_797 ⟨(show u + 18 + 0 ≤ 600000 by omega), (show v + 3323 + 0 ≤ 7302250 by omega)⟩) hS (fun q _ h => fM q h) fM (fun rb r1 t9 H2 locs2 ht hvm hwB hB _ hk2 hS2 => ?_)
  refine W.cs (cells' := u + 18) (slots' := v + 3323) rfl rfl ?_
  have hP2 := x_th ht hB
  have hB1 := xB_keep hB1 hk2
  exact xr_if_lcmp_eq (tgt := 1216) hx hb dL_law_800 dL_law_801 (by decide) (fun _ => kk H2 locs2 ⟨(zRest Z (sI xs i 1)).2, st1, ln, sv, kv1, cu, r1, hwA.2, hwB.2, zRest_I hIZ (sI xs i 1), hB1, hP2, hS2⟩) (fun q => absurd ((hwA.1).trans (hwB.1).symm) q)
set_option maxHeartbeats 4000000 in
set_option maxRecDepth 100000 in
theorem lc_wake {p : Program} {e : Env} {s : State} {m : MethodId} {below : List Frame} {meth : Method} {c : Code} (l : Launch) {b L : Nat} {xs : Nat → Int32} (hL : L ≤ 3584) (C0 : lw_At p s m meth c b L xs) {dC : Nat → ClassId} {dI : Nat → Nat → Nat} {a0 : Nat} {ci : Nat → ClassId} {am : Nat → Nat} (G0 : LC s dC dI ci am) {i u v : Nat} (hu : u + 18 ≤ 600000) (hv : v + 3323 ≤ 7302250) (hi : i + 7 ≤ L) {H : Heap} {locs : List Loc} {ls : Array Slot} (hX : LX s dC dI a0 ci am H locs) (hl : lv_has ls 4 [(0, .ref b), (1, .ref a0), (2, .ref (am 0)), (3, .int (nI i))]) (kk : ∀ (H : Heap) (locs : List Loc), LX s dC dI a0 ci am H locs → W p l e room_1 s m #[Value.ref b] below meth c H locs (u + 18) (v + 3323) (lw_Z below #[Value.ref b] s) (F0 m 1216 ls [])) : W p l e room_1 s m #[Value.ref b] below meth c H locs u v (lw_Z below #[Value.ref b] s) (F0 m 806 ls []) := by
  obtain ⟨hx, hb, hr, hml, hown, hts0, hXs, hbl, hlocks, hgv⟩ := id C0
  have hts : ∀ w ∈ wsL_law, w.before #[Value.ref b] s = true := fun w h => hts0 w (wsL_law_in w h)
  have hown : s.vm.findClass RL = some m.cls := hown
  obtain ⟨hK, hN, g3, g4⟩ := id G0
  obtain ⟨Z, st, ln, sv, kv, cu, r, hKI, hMK, hIZ, hB0, hPm, hS⟩ := hX
  have hbA : ¬ (fun q : Nat => s.heap.size ≤ q) b := Nat.not_le.mpr hbl
  have fA : ∀ q, Ac s am q → (fun q : Nat => s.heap.size ≤ q) q := fun q h => h.1
  have fM : ∀ q, Ax 7 am q → (fun q : Nat => s.heap.size ≤ q) q := fun q ⟨k, h1, h2⟩ => by rw [h2]; exact g4 k h1
  refine lv_aload_n hx hb dL_law_806 rfl (lv_at hl 1 rfl) ?_
  refine lv_aload_n hx hb dL_law_807 rfl (lv_at hl 0 rfl) ?_
  refine lv_iload_n hx hb dL_law_808 rfl (lv_at hl 3 rfl) ?_
  refine lv_iconst (v := (1 : Int32)) hx hb dL_law_809 (by decide) ?_
  refine lv_iadd hx hb dL_law_810 ?_
  refine va_sld hx hb hXs hbl hbA hS (s_in hi hL 1 rfl (by omega)) dL_law_811 ?_
  have hq : PX6_wake st kv cu (sI xs i 1) (fun (r9 : Int64) (st' : Nat → StV) (kv' : KvV) => r9 = (zWake Z (sI xs i 1)).1 ∧ KI st' kv' cu (zWake Z (sI xs i 1)).2) := cWake hKI (post := (fun (r9 : Int64) (st' : Nat → StV) (kv' : KvV) => r9 = (zWake Z (sI xs i 1)).1 ∧ KI st' kv' cu (zWake Z (sI xs i 1)).2)) (fun st' kv' hk => ⟨rfl, hk⟩)
  refine va_calll (va_runV (As := [.int (sI xs i 1)]) (rest := []) ⟨hx, hb, hml, hown, hts⟩ (qX6_wake l dC dI ci (Ac s am) a0 st ln sv kv cu (sI xs i 1) _ hq) (cwV 1 hts gL_law_X6_wake rfl rfl rfl (by decide +kernel) ⟨Nat.le_of_ble_eq_true rfl, Nat.le_of_ble_eq_true rfl⟩) ⟨xk_blind, xB_recv hK hB0, xk_pre hB0 hK hN (newA hS.1 hPm)⟩ rfl rfl hl.1 rfl (lv_room (Nat.le_of_ble_eq_true rfl)) dL_law_812 ⟨(show u + 18 ≤ 600000 by omega), (show v + 3323 ≤ 7302250 by omega)⟩) hS (fun q _ h => fA q h) fA (fun ra u9 t9 H1 locs1 ht hvm hwA hB _ hk1 hS1 => ?_)
  refine W.cs (cells' := u + 18) (slots' := v + 3323) rfl rfl ?_
  obtain ⟨st1, kv1⟩ := u9
  have hB1 := xB_th ht hB
  have hPm := keepA hPm hk1
  have hS := hS1
  refine lv_aload_n hx hb dL_law_815 rfl (lv_at hl 2 rfl) ?_
  refine lv_aload_n hx hb dL_law_816 rfl (lv_at hl 0 rfl) ?_
  refine lv_iload_n hx hb dL_law_817 rfl (lv_at hl 3 rfl) ?_
  refine lv_iconst (v := (1 : Int32)) hx hb dL_law_818 (by decide) ?_
  refine lv_iadd hx hb dL_law_819 ?_
  refine va_sld hx hb hXs hbl hbA hS (s_in hi hL 1 rfl (by omega)) dL_law_820 ?_
  have hq2 : PX7_wake r (sI xs i 1) (fun (r9 : Int64) (r' : MmV) => r9 = (zWake Z (sI xs i 1)).1 ∧ MK r' (zWake Z (sI xs i 1)).2) := mWake hMK (post := (fun (r9 : Int64) (r' : MmV) => r9 = (zWake Z (sI xs i 1)).1 ∧ MK r' (zWake Z (sI xs i 1)).2)) (fun r' hk => ⟨rfl, hk⟩)
  refine va_calll (va_runV (As := [.int (sI xs i 1)]) (rest := [.long ra]) ⟨hx, hb, hml, hown, hts⟩ (qX7_wake l dC dI am ci (Ax 7 am) (Ax_D g3) r (sI xs i 1) _ hq2) (cwV 1 hts gL_law_X7_wake rfl rfl rfl (by decide +kernel) ⟨Nat.le_of_ble_eq_true rfl, Nat.le_of_ble_eq_true rfl⟩) ⟨xr_blind, xr_recv (r := (RX7, TX7, 9)) hK hPm 0 (by decide) me_M rfl, xr_pre hPm hK⟩ rfl rfl hl.1 rfl (lv_room (Nat.le_of_ble_eq_true rfl)) dL_law_821 ⟨(show u + 18 + 0 ≤ 600000 by omega), (show v + 3323 + 0 ≤ 7302250 by omega)⟩) hS (fun q _ h => fM q h) fM (fun rb r1 t9 H2 locs2 ht hvm hwB hB _ hk2 hS2 => ?_)
  refine W.cs (cells' := u + 18) (slots' := v + 3323) rfl rfl ?_
  have hP2 := x_th ht hB
  have hB1 := xB_keep hB1 hk2
  exact xr_if_lcmp_eq (tgt := 1216) hx hb dL_law_824 dL_law_825 (by decide) (fun _ => kk H2 locs2 ⟨(zWake Z (sI xs i 1)).2, st1, ln, sv, kv1, cu, r1, hwA.2, hwB.2, zWake_I hIZ (sI xs i 1), hB1, hP2, hS2⟩) (fun q => absurd ((hwA.1).trans (hwB.1).symm) q)
set_option maxHeartbeats 4000000 in
set_option maxRecDepth 100000 in
theorem lc_about {p : Program} {e : Env} {s : State} {m : MethodId} {below : List Frame} {meth : Method} {c : Code} (l : Launch) {b L : Nat} {xs : Nat → Int32} (hL : L ≤ 3584) (C0 : lw_At p s m meth c b L xs) {dC : Nat → ClassId} {dI : Nat → Nat → Nat} {a0 : Nat} {ci : Nat → ClassId} {am : Nat → Nat} (G0 : LC s dC dI ci am) {i u v : Nat} (hu : u + 18 ≤ 600000) (hv : v + 3323 ≤ 7302250) (hi : i + 7 ≤ L) {H : Heap} {locs : List Loc} {ls : Array Slot} (hX : LX s dC dI a0 ci am H locs) (hl : lv_has ls 4 [(0, .ref b), (1, .ref a0), (2, .ref (am 0)), (3, .int (nI i))]) (kk : ∀ (H : Heap) (locs : List Loc), LX s dC dI a0 ci am H locs → W p l e room_1 s m #[Value.ref b] below meth c H locs (u + 18) (v + 3323) (lw_Z below #[Value.ref b] s) (F0 m 1216 ls [])) : W p l e room_1 s m #[Value.ref b] below meth c H locs u v (lw_Z below #[Value.ref b] s) (F0 m 830 ls []) := by
  obtain ⟨hx, hb, hr, hml, hown, hts0, hXs, hbl, hlocks, hgv⟩ := id C0
  have hts : ∀ w ∈ wsL_law, w.before #[Value.ref b] s = true := fun w h => hts0 w (wsL_law_in w h)
  have hown : s.vm.findClass RL = some m.cls := hown
  obtain ⟨hK, hN, g3, g4⟩ := id G0
  obtain ⟨Z, st, ln, sv, kv, cu, r, hKI, hMK, hIZ, hB0, hPm, hS⟩ := hX
  have hbA : ¬ (fun q : Nat => s.heap.size ≤ q) b := Nat.not_le.mpr hbl
  have fA : ∀ q, Ac s am q → (fun q : Nat => s.heap.size ≤ q) q := fun q h => h.1
  have fM : ∀ q, Ax 7 am q → (fun q : Nat => s.heap.size ≤ q) q := fun q ⟨k, h1, h2⟩ => by rw [h2]; exact g4 k h1
  refine lv_aload_n hx hb dL_law_830 rfl (lv_at hl 1 rfl) ?_
  refine lv_aload_n hx hb dL_law_831 rfl (lv_at hl 0 rfl) ?_
  refine lv_iload_n hx hb dL_law_832 rfl (lv_at hl 3 rfl) ?_
  refine lv_iconst (v := (1 : Int32)) hx hb dL_law_833 (by decide) ?_
  refine lv_iadd hx hb dL_law_834 ?_
  refine va_sld hx hb hXs hbl hbA hS (s_in hi hL 1 rfl (by omega)) dL_law_835 ?_
  refine lv_aload_n hx hb dL_law_836 rfl (lv_at hl 0 rfl) ?_
  refine lv_iload_n hx hb dL_law_837 rfl (lv_at hl 3 rfl) ?_
  refine lv_iconst (v := (2 : Int32)) hx hb dL_law_838 (by decide) ?_
  refine lv_iadd hx hb dL_law_839 ?_
  refine va_sld hx hb hXs hbl hbA hS (s_in hi hL 2 rfl (by omega)) dL_law_840 ?_
  have hq : PX6_about st cu (sI xs i 1) (sI xs i 2) (fun (r9 : Int64) => r9 = (zAbout Z.1 (sI xs i 1) (sI xs i 2))) := cAbout hKI.cs (post := (fun (r9 : Int64) => r9 = (zAbout Z.1 (sI xs i 1) (sI xs i 2)))) (rfl)
  refine va_calll (va_runV (As := [.int (sI xs i 1), .int (sI xs i 2)]) (rest := []) ⟨hx, hb, hml, hown, hts⟩ (qX6_about l dC dI ci (Ac s am) a0 st ln sv kv cu (sI xs i 1) (sI xs i 2) _ hq) (cwV 2 hts gL_law_X6_about rfl rfl rfl (by decide +kernel) ⟨Nat.le_of_ble_eq_true rfl, Nat.le_of_ble_eq_true rfl⟩) ⟨xk_blind, xB_recv hK hB0, xk_pre hB0 hK hN (newA hS.1 hPm)⟩ rfl rfl hl.1 rfl (lv_room (Nat.le_of_ble_eq_true rfl)) dL_law_841 ⟨(show u + 0 ≤ 600000 by omega), (show v + 0 ≤ 7302250 by omega)⟩) hS (fun q _ h => fA q h) fA (fun ra _ t9 H1 locs1 ht hvm hwA hB _ hk1 hS1 => ?_)
  refine W.cs (cells' := u) (slots' := v) rfl rfl ?_
  have hB1 := xB_th ht hB
  have hPm := keepA hPm hk1
  have hS := hS1
  refine lv_aload_n hx hb dL_law_844 rfl (lv_at hl 2 rfl) ?_
  refine lv_aload_n hx hb dL_law_845 rfl (lv_at hl 0 rfl) ?_
  refine lv_iload_n hx hb dL_law_846 rfl (lv_at hl 3 rfl) ?_
  refine lv_iconst (v := (1 : Int32)) hx hb dL_law_847 (by decide) ?_
  refine lv_iadd hx hb dL_law_848 ?_
  refine va_sld hx hb hXs hbl hbA hS (s_in hi hL 1 rfl (by omega)) dL_law_849 ?_
  refine lv_aload_n hx hb dL_law_850 rfl (lv_at hl 0 rfl) ?_
  refine lv_iload_n hx hb dL_law_851 rfl (lv_at hl 3 rfl) ?_
  refine lv_iconst (v := (2 : Int32)) hx hb dL_law_852 (by decide) ?_
  refine lv_iadd hx hb dL_law_853 ?_
  refine va_sld hx hb hXs hbl hbA hS (s_in hi hL 2 rfl (by omega)) dL_law_854 ?_
  have hq2 : PX7_about r (sI xs i 1) (sI xs i 2) (fun (r9 : Int64) => r9 = (zAbout Z.1 (sI xs i 1) (sI xs i 2))) := mAbout hMK.1 (post := (fun (r9 : Int64) => r9 = (zAbout Z.1 (sI xs i 1) (sI xs i 2)))) (rfl)
  refine va_calll (va_runV (As := [.int (sI xs i 1), .int (sI xs i 2)]) (rest := [.long ra]) ⟨hx, hb, hml, hown, hts⟩ (qX7_about l dC dI am ci (Ax 7 am) (Ax_D g3) r (sI xs i 1) (sI xs i 2) _ hq2) (cwV 2 hts gL_law_X7_about rfl rfl rfl (by decide +kernel) ⟨Nat.le_of_ble_eq_true rfl, Nat.le_of_ble_eq_true rfl⟩) ⟨xr_blind, xr_recv (r := (RX7, TX7, 9)) hK hPm 0 (by decide) me_M rfl, xr_pre hPm hK⟩ rfl rfl hl.1 rfl (lv_room (Nat.le_of_ble_eq_true rfl)) dL_law_855 ⟨(show u + 0 ≤ 600000 by omega), (show v + 0 ≤ 7302250 by omega)⟩) hS (fun q _ h => fM q h) fM (fun rb _ t9 H2 locs2 ht hvm hwB hB _ hk2 hS2 => ?_)
  refine W.cs (cells' := u) (slots' := v) rfl rfl ?_
  have hP2 := x_th ht hB
  have hB1 := xB_keep hB1 hk2
  refine W.widen (k := u + 18) (n := v + 3323) (by omega) (by omega) ?_
  exact xr_if_lcmp_eq (tgt := 1216) hx hb dL_law_858 dL_law_859 (by decide) (fun _ => kk H2 locs2 ⟨Z, st, ln, sv, kv, cu, r, hKI, hMK, hIZ, hB1, hP2, hS2⟩) (fun q => absurd ((hwA).trans (hwB).symm) q)
set_option maxHeartbeats 4000000 in
set_option maxRecDepth 100000 in
theorem lc_isOf {p : Program} {e : Env} {s : State} {m : MethodId} {below : List Frame} {meth : Method} {c : Code} (l : Launch) {b L : Nat} {xs : Nat → Int32} (hL : L ≤ 3584) (C0 : lw_At p s m meth c b L xs) {dC : Nat → ClassId} {dI : Nat → Nat → Nat} {a0 : Nat} {ci : Nat → ClassId} {am : Nat → Nat} (G0 : LC s dC dI ci am) {i u v : Nat} (hu : u + 18 ≤ 600000) (hv : v + 3323 ≤ 7302250) (hi : i + 7 ≤ L) {H : Heap} {locs : List Loc} {ls : Array Slot} (hX : LX s dC dI a0 ci am H locs) (hl : lv_has ls 4 [(0, .ref b), (1, .ref a0), (2, .ref (am 0)), (3, .int (nI i))]) (kk : ∀ (H : Heap) (locs : List Loc), LX s dC dI a0 ci am H locs → W p l e room_1 s m #[Value.ref b] below meth c H locs (u + 18) (v + 3323) (lw_Z below #[Value.ref b] s) (F0 m 1216 ls [])) : W p l e room_1 s m #[Value.ref b] below meth c H locs u v (lw_Z below #[Value.ref b] s) (F0 m 864 ls []) := by
  obtain ⟨hx, hb, hr, hml, hown, hts0, hXs, hbl, hlocks, hgv⟩ := id C0
  have hts : ∀ w ∈ wsL_law, w.before #[Value.ref b] s = true := fun w h => hts0 w (wsL_law_in w h)
  have hown : s.vm.findClass RL = some m.cls := hown
  obtain ⟨hK, hN, g3, g4⟩ := id G0
  obtain ⟨Z, st, ln, sv, kv, cu, r, hKI, hMK, hIZ, hB0, hPm, hS⟩ := hX
  have hbA : ¬ (fun q : Nat => s.heap.size ≤ q) b := Nat.not_le.mpr hbl
  have fA : ∀ q, Ac s am q → (fun q : Nat => s.heap.size ≤ q) q := fun q h => h.1
  have fM : ∀ q, Ax 7 am q → (fun q : Nat => s.heap.size ≤ q) q := fun q ⟨k, h1, h2⟩ => by rw [h2]; exact g4 k h1
  refine lv_aload_n hx hb dL_law_864 rfl (lv_at hl 1 rfl) ?_
  refine lv_aload_n hx hb dL_law_865 rfl (lv_at hl 0 rfl) ?_
  refine lv_iload_n hx hb dL_law_866 rfl (lv_at hl 3 rfl) ?_
  refine lv_iconst (v := (1 : Int32)) hx hb dL_law_867 (by decide) ?_
  refine lv_iadd hx hb dL_law_868 ?_
  refine va_sld hx hb hXs hbl hbA hS (s_in hi hL 1 rfl (by omega)) dL_law_869 ?_
  refine lv_aload_n hx hb dL_law_870 rfl (lv_at hl 0 rfl) ?_
  refine lv_iload_n hx hb dL_law_871 rfl (lv_at hl 3 rfl) ?_
  refine lv_iconst (v := (2 : Int32)) hx hb dL_law_872 (by decide) ?_
  refine lv_iadd hx hb dL_law_873 ?_
  refine va_sld hx hb hXs hbl hbA hS (s_in hi hL 2 rfl (by omega)) dL_law_874 ?_
  have hq : PX6_isOf st cu (sI xs i 1) (sI xs i 2) (fun (r9 : Int64) => r9 = (zIsOf Z.1 (sI xs i 1) (sI xs i 2))) := cIsOf hKI.cs (post := (fun (r9 : Int64) => r9 = (zIsOf Z.1 (sI xs i 1) (sI xs i 2)))) (rfl)
  refine va_calll (va_runV (As := [.int (sI xs i 1), .int (sI xs i 2)]) (rest := []) ⟨hx, hb, hml, hown, hts⟩ (qX6_isOf l dC dI ci (Ac s am) a0 st ln sv kv cu (sI xs i 1) (sI xs i 2) _ hq) (cwV 2 hts gL_law_X6_isOf rfl rfl rfl (by decide +kernel) ⟨Nat.le_of_ble_eq_true rfl, Nat.le_of_ble_eq_true rfl⟩) ⟨xk_blind, xB_recv hK hB0, xk_pre hB0 hK hN (newA hS.1 hPm)⟩ rfl rfl hl.1 rfl (lv_room (Nat.le_of_ble_eq_true rfl)) dL_law_875 ⟨(show u + 0 ≤ 600000 by omega), (show v + 0 ≤ 7302250 by omega)⟩) hS (fun q _ h => fA q h) fA (fun ra _ t9 H1 locs1 ht hvm hwA hB _ hk1 hS1 => ?_)
  refine W.cs (cells' := u) (slots' := v) rfl rfl ?_
  have hB1 := xB_th ht hB
  have hPm := keepA hPm hk1
  have hS := hS1
  refine lv_aload_n hx hb dL_law_878 rfl (lv_at hl 2 rfl) ?_
  refine lv_aload_n hx hb dL_law_879 rfl (lv_at hl 0 rfl) ?_
  refine lv_iload_n hx hb dL_law_880 rfl (lv_at hl 3 rfl) ?_
  refine lv_iconst (v := (1 : Int32)) hx hb dL_law_881 (by decide) ?_
  refine lv_iadd hx hb dL_law_882 ?_
  refine va_sld hx hb hXs hbl hbA hS (s_in hi hL 1 rfl (by omega)) dL_law_883 ?_
  refine lv_aload_n hx hb dL_law_884 rfl (lv_at hl 0 rfl) ?_
  refine lv_iload_n hx hb dL_law_885 rfl (lv_at hl 3 rfl) ?_
  refine lv_iconst (v := (2 : Int32)) hx hb dL_law_886 (by decide) ?_
  refine lv_iadd hx hb dL_law_887 ?_
  refine va_sld hx hb hXs hbl hbA hS (s_in hi hL 2 rfl (by omega)) dL_law_888 ?_
  have hq2 : PX7_isOf r (sI xs i 1) (sI xs i 2) (fun (r9 : Int64) => r9 = (zIsOf Z.1 (sI xs i 1) (sI xs i 2))) := mIsOf hMK.1 (post := (fun (r9 : Int64) => r9 = (zIsOf Z.1 (sI xs i 1) (sI xs i 2)))) (rfl)
  refine va_calll (va_runV (As := [.int (sI xs i 1), .int (sI xs i 2)]) (rest := [.long ra]) ⟨hx, hb, hml, hown, hts⟩ (qX7_isOf l dC dI am ci (Ax 7 am) (Ax_D g3) r (sI xs i 1) (sI xs i 2) _ hq2) (cwV 2 hts gL_law_X7_isOf rfl rfl rfl (by decide +kernel) ⟨Nat.le_of_ble_eq_true rfl, Nat.le_of_ble_eq_true rfl⟩) ⟨xr_blind, xr_recv (r := (RX7, TX7, 9)) hK hPm 0 (by decide) me_M rfl, xr_pre hPm hK⟩ rfl rfl hl.1 rfl (lv_room (Nat.le_of_ble_eq_true rfl)) dL_law_889 ⟨(show u + 0 ≤ 600000 by omega), (show v + 0 ≤ 7302250 by omega)⟩) hS (fun q _ h => fM q h) fM (fun rb _ t9 H2 locs2 ht hvm hwB hB _ hk2 hS2 => ?_)
  refine W.cs (cells' := u) (slots' := v) rfl rfl ?_
  have hP2 := x_th ht hB
  have hB1 := xB_keep hB1 hk2
  refine W.widen (k := u + 18) (n := v + 3323) (by omega) (by omega) ?_
  exact xr_if_lcmp_eq (tgt := 1216) hx hb dL_law_892 dL_law_893 (by decide) (fun _ => kk H2 locs2 ⟨Z, st, ln, sv, kv, cu, r, hKI, hMK, hIZ, hB1, hP2, hS2⟩) (fun q => absurd ((hwA).trans (hwB).symm) q)
