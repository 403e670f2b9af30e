set_option maxHeartbeats 4000000 in
set_option maxRecDepth 100000 in
theorem lc_bits {p : Program} {e : Env} {s : State} {m : MethodId} {below : List Frame} {meth : Method} {c : Code} (l : Launch) {b L : Nat} {xs : Nat → Int32} (hL : L ≤ 3584) (C0 : lw_At p s m meth c b L xs) {dC : Nat → ClassId} {dI : Nat → Nat → Nat} {a0 : Nat} {ci : Nat → ClassId} {am : Nat → Nat} (G0 : LC s dC dI ci am) {i u v : Nat} (hu : u + 18 ≤ 600000) (hv : v + 3323 ≤ 7302250) (hi : i + 7 ≤ L) {H : Heap} {locs : List Loc} {ls : Array Slot} (hX : LX s dC dI a0 ci am H locs) (hl : lv_has ls 4 [(0, .ref b), (1, .ref a0), (2, .ref (am 0)), (3, .int (nI i))]) (kk : ∀ (H : Heap) (locs : List Loc), LX s dC dI a0 ci am H locs → W p l e room_1 s m #[Value.ref b] below meth c H locs (u + 18) (v + 3323) (lw_Z below #[Value.ref b] s) (F0 m 1216 ls [])) : W p l e room_1 s m #[Value.ref b] below meth c H locs u v (lw_Z below #[Value.ref b] s) (F0 m 1062 ls []) := by
  obtain ⟨hx, hb, hr, hml, hown, hts0, hXs, hbl, hlocks, hgv⟩ := id C0
  have hts : ∀ w ∈ wsL_law, w.before #[Value.ref b] s = true := fun w h => hts0 w (wsL_law_in w h)
  have hown : s.vm.findClass RL = some m.cls := hown
  obtain ⟨hK, hN, g3, g4⟩ := id G0
  obtain ⟨Z, st, ln, sv, kv, cu, r, hKI, hMK, hIZ, hB0, hPm, hS⟩ := hX
  have hbA : ¬ (fun q : Nat => s.heap.size ≤ q) b := Nat.not_le.mpr hbl
  have fA : ∀ q, Ac s am q → (fun q : Nat => s.heap.size ≤ q) q := fun q h => h.1
  have fM : ∀ q, Ax 7 am q → (fun q : Nat => s.heap.size ≤ q) q := fun q ⟨k, h1, h2⟩ => by rw [h2]; exact g4 k h1
  refine lv_aload_n hx hb dL_law_1062 rfl (lv_at hl 1 rfl) ?_
  refine lv_aload_n hx hb dL_law_1063 rfl (lv_at hl 0 rfl) ?_
  refine lv_iload_n hx hb dL_law_1064 rfl (lv_at hl 3 rfl) ?_
  refine lv_iconst (v := (1 : Int32)) hx hb dL_law_1065 (by decide) ?_
  refine lv_iadd hx hb dL_law_1066 ?_
  refine va_sld hx hb hXs hbl hbA hS (s_in hi hL 1 rfl (by omega)) dL_law_1067 ?_
  have hq : PX6_bits st cu (sI xs i 1) (fun (r9 : Int64) => r9 = (zBits Z.1 (sI xs i 1))) := cBits hKI.cs hIZ.1 (post := (fun (r9 : Int64) => r9 = (zBits Z.1 (sI xs i 1)))) (rfl)
  refine va_calll (va_runV (As := [.int (sI xs i 1)]) (rest := []) ⟨hx, hb, hml, hown, hts⟩ (qX6_bits l dC dI ci (Ac s am) a0 st ln sv kv cu (sI xs i 1) _ hq) (cwV 1 hts gL_law_X6_bits rfl rfl rfl (by decide +kernel) ⟨Nat.le_of_ble_eq_true rfl, Nat.le_of_ble_eq_true rfl⟩) ⟨xk_blind, xB_recv hK hB0, xk_pre hB0 hK hN (newA hS.1 hPm)⟩ rfl rfl hl.1 rfl (lv_room (Nat.le_of_ble_eq_true rfl)) dL_law_1068 ⟨(show u + 0 ≤ 600000 by omega), (show v + 0 ≤ 7302250 by omega)⟩) hS (fun q _ h => fA q h) fA (fun ra _ t9 H1 locs1 ht hvm hwA hB _ hk1 hS1 => ?_)
  refine W.cs (cells' := u) (slots' := v) rfl rfl ?_
  have hB1 := xB_th ht hB
  have hPm := keepA hPm hk1
  have hS := hS1
  refine lv_aload_n hx hb dL_law_1071 rfl (lv_at hl 2 rfl) ?_
  refine lv_aload_n hx hb dL_law_1072 rfl (lv_at hl 0 rfl) ?_
  refine lv_iload_n hx hb dL_law_1073 rfl (lv_at hl 3 rfl) ?_
  refine lv_iconst (v := (1 : Int32)) hx hb dL_law_1074 (by decide) ?_
  refine lv_iadd hx hb dL_law_1075 ?_
  refine va_sld hx hb hXs hbl hbA hS (s_in hi hL 1 rfl (by omega)) dL_law_1076 ?_
  have hq2 : PX7_bits r (sI xs i 1) (fun (r9 : Int64) => r9 = (zBits Z.1 (sI xs i 1))) := mBits hMK.1 hIZ.1 (post := (fun (r9 : Int64) => r9 = (zBits Z.1 (sI xs i 1)))) (rfl)
  refine va_calll (va_runV (As := [.int (sI xs i 1)]) (rest := [.long ra]) ⟨hx, hb, hml, hown, hts⟩ (qX7_bits l dC dI am ci (Ax 7 am) (Ax_D g3) r (sI xs i 1) _ hq2) (cwV 1 hts gL_law_X7_bits rfl rfl rfl (by decide +kernel) ⟨Nat.le_of_ble_eq_true rfl, Nat.le_of_ble_eq_true rfl⟩) ⟨xr_blind, xr_recv (r := (RX7, TX7, 9)) hK hPm 0 (by decide) me_M rfl, xr_pre hPm hK⟩ rfl rfl hl.1 rfl (lv_room (Nat.le_of_ble_eq_true rfl)) dL_law_1077 ⟨(show u + 0 ≤ 600000 by omega), (show v + 0 ≤ 7302250 by omega)⟩) hS (fun q _ h => fM q h) fM (fun rb _ t9 H2 locs2 ht hvm hwB hB _ hk2 hS2 => ?_)
  refine W.cs (cells' := u) (slots' := v) rfl rfl ?_
  have hP2 := x_th ht hB
  have hB1 := xB_keep hB1 hk2
  refine W.widen (k := u + 18) (n := v + 3323) (by omega) (by omega) ?_
  exact xr_if_lcmp_eq (tgt := 1216) hx hb dL_law_1080 dL_law_1081 (by decide) (fun _ => kk H2 locs2 ⟨Z, st, ln, sv, kv, cu, r, hKI, hMK, hIZ, hB1, hP2, hS2⟩) (fun q => absurd ((hwA).trans (hwB).symm) q)
set_option maxHeartbeats 4000000 in
set_option maxRecDepth 100000 in
theorem lc_many {p : Program} {e : Env} {s : State} {m : MethodId} {below : List Frame} {meth : Method} {c : Code} (l : Launch) {b L : Nat} {xs : Nat → Int32} (hL : L ≤ 3584) (C0 : lw_At p s m meth c b L xs) {dC : Nat → ClassId} {dI : Nat → Nat → Nat} {a0 : Nat} {ci : Nat → ClassId} {am : Nat → Nat} (G0 : LC s dC dI ci am) {i u v : Nat} (hu : u + 18 ≤ 600000) (hv : v + 3323 ≤ 7302250) (hi : i + 7 ≤ L) {H : Heap} {locs : List Loc} {ls : Array Slot} (hX : LX s dC dI a0 ci am H locs) (hl : lv_has ls 4 [(0, .ref b), (1, .ref a0), (2, .ref (am 0)), (3, .int (nI i))]) (kk : ∀ (H : Heap) (locs : List Loc), LX s dC dI a0 ci am H locs → W p l e room_1 s m #[Value.ref b] below meth c H locs (u + 18) (v + 3323) (lw_Z below #[Value.ref b] s) (F0 m 1216 ls [])) : W p l e room_1 s m #[Value.ref b] below meth c H locs u v (lw_Z below #[Value.ref b] s) (F0 m 1086 ls []) := by
  obtain ⟨hx, hb, hr, hml, hown, hts0, hXs, hbl, hlocks, hgv⟩ := id C0
  have hts : ∀ w ∈ wsL_law, w.before #[Value.ref b] s = true := fun w h => hts0 w (wsL_law_in w h)
  have hown : s.vm.findClass RL = some m.cls := hown
  obtain ⟨hK, hN, g3, g4⟩ := id G0
  obtain ⟨Z, st, ln, sv, kv, cu, r, hKI, hMK, hIZ, hB0, hPm, hS⟩ := hX
  have hbA : ¬ (fun q : Nat => s.heap.size ≤ q) b := Nat.not_le.mpr hbl
  have fA : ∀ q, Ac s am q → (fun q : Nat => s.heap.size ≤ q) q := fun q h => h.1
  have fM : ∀ q, Ax 7 am q → (fun q : Nat => s.heap.size ≤ q) q := fun q ⟨k, h1, h2⟩ => by rw [h2]; exact g4 k h1
  refine lv_aload_n hx hb dL_law_1086 rfl (lv_at hl 1 rfl) ?_
  refine lv_aload_n hx hb dL_law_1087 rfl (lv_at hl 0 rfl) ?_
  refine lv_iload_n hx hb dL_law_1088 rfl (lv_at hl 3 rfl) ?_
  refine lv_iconst (v := (1 : Int32)) hx hb dL_law_1089 (by decide) ?_
  refine lv_iadd hx hb dL_law_1090 ?_
  refine va_sld hx hb hXs hbl hbA hS (s_in hi hL 1 rfl (by omega)) dL_law_1091 ?_
  refine lv_aload_n hx hb dL_law_1092 rfl (lv_at hl 0 rfl) ?_
  refine lv_iload_n hx hb dL_law_1093 rfl (lv_at hl 3 rfl) ?_
  refine lv_iconst (v := (2 : Int32)) hx hb dL_law_1094 (by decide) ?_
  refine lv_iadd hx hb dL_law_1095 ?_
  refine va_sld hx hb hXs hbl hbA hS (s_in hi hL 2 rfl (by omega)) dL_law_1096 ?_
  have hq : PX6_many st cu (sI xs i 1) (sI xs i 2) (fun (r9 : Int64) => r9 = (zMany Z.1 (sI xs i 1) (sI xs i 2))) := cMany hKI.cs hIZ.1 (post := (fun (r9 : Int64) => r9 = (zMany Z.1 (sI xs i 1) (sI xs i 2)))) (rfl)
  refine va_calll (va_runV (As := [.int (sI xs i 1), .int (sI xs i 2)]) (rest := []) ⟨hx, hb, hml, hown, hts⟩ (qX6_many l dC dI ci (Ac s am) a0 st ln sv kv cu (sI xs i 1) (sI xs i 2) _ hq) (cwV 2 hts gL_law_X6_many rfl rfl rfl (by decide +kernel) ⟨Nat.le_of_ble_eq_true rfl, Nat.le_of_ble_eq_true rfl⟩) ⟨xk_blind, xB_recv hK hB0, xk_pre hB0 hK hN (newA hS.1 hPm)⟩ rfl rfl hl.1 rfl (lv_room (Nat.le_of_ble_eq_true rfl)) dL_law_1097 ⟨(show u + 0 ≤ 600000 by omega), (show v + 0 ≤ 7302250 by omega)⟩) hS (fun q _ h => fA q h) fA (fun ra _ t9 H1 locs1 ht hvm hwA hB _ hk1 hS1 => ?_)
  refine W.cs (cells' := u) (slots' := v) rfl rfl ?_
  have hB1 := xB_th ht hB
  have hPm := keepA hPm hk1
  have hS := hS1
  refine lv_aload_n hx hb dL_law_1100 rfl (lv_at hl 2 rfl) ?_
  refine lv_aload_n hx hb dL_law_1101 rfl (lv_at hl 0 rfl) ?_
  refine lv_iload_n hx hb dL_law_1102 rfl (lv_at hl 3 rfl) ?_
  refine lv_iconst (v := (1 : Int32)) hx hb dL_law_1103 (by decide) ?_
  refine lv_iadd hx hb dL_law_1104 ?_
  refine va_sld hx hb hXs hbl hbA hS (s_in hi hL 1 rfl (by omega)) dL_law_1105 ?_
  refine lv_aload_n hx hb dL_law_1106 rfl (lv_at hl 0 rfl) ?_
  refine lv_iload_n hx hb dL_law_1107 rfl (lv_at hl 3 rfl) ?_
  refine lv_iconst (v := (2 : Int32)) hx hb dL_law_1108 (by decide) ?_
  refine lv_iadd hx hb dL_law_1109 ?_
  refine va_sld hx hb hXs hbl hbA hS (s_in hi hL 2 rfl (by omega)) dL_law_1110 ?_
  have hq2 : PX7_many r (sI xs i 1) (sI xs i 2) (fun (r9 : Int64) => r9 = (zMany Z.1 (sI xs i 1) (sI xs i 2))) := mMany hMK.1 hIZ.1 (post := (fun (r9 : Int64) => r9 = (zMany Z.1 (sI xs i 1) (sI xs i 2)))) (rfl)
  refine va_calll (va_runV (As := [.int (sI xs i 1), .int (sI xs i 2)]) (rest := [.long ra]) ⟨hx, hb, hml, hown, hts⟩ (qX7_many l dC dI am ci (Ax 7 am) (Ax_D g3) r (sI xs i 1) (sI xs i 2) _ hq2) (cwV 2 hts gL_law_X7_many rfl rfl rfl (by decide +kernel) ⟨Nat.le_of_ble_eq_true rfl, Nat.le_of_ble_eq_true rfl⟩) ⟨xr_blind, xr_recv (r := (RX7, TX7, 9)) hK hPm 0 (by decide) me_M rfl, xr_pre hPm hK⟩ rfl rfl hl.1 rfl (lv_room (Nat.le_of_ble_eq_true rfl)) dL_law_1111 ⟨(show u + 0 ≤ 600000 by omega), (show v + 0 ≤ 7302250 by omega)⟩) hS (fun q _ h => fM q h) fM (fun rb _ t9 H2 locs2 ht hvm hwB hB _ hk2 hS2 => ?_)
  refine W.cs (cells' := u) (slots' := v) rfl rfl ?_
  have hP2 := x_th ht hB
  have hB1 := xB_keep hB1 hk2
  refine W.widen (k := u + 18) (n := v + 3323) (by omega) (by omega) ?_
  exact xr_if_lcmp_eq (tgt := 1216) hx hb dL_law_1114 dL_law_1115 (by decide) (fun _ => kk H2 locs2 ⟨Z, st, ln, sv, kv, cu, r, hKI, hMK, hIZ, hB1, hP2, hS2⟩) (fun q => absurd ((hwA).trans (hwB).symm) q)
set_option maxHeartbeats 4000000 in
set_option maxRecDepth 100000 in
theorem lc_in {p : Program} {e : Env} {s : State} {m : MethodId} {below : List Frame} {meth : Method} {c : Code} (l : Launch) {b L : Nat} {xs : Nat → Int32} (hL : L ≤ 3584) (C0 : lw_At p s m meth c b L xs) {dC : Nat → ClassId} {dI : Nat → Nat → Nat} {a0 : Nat} {ci : Nat → ClassId} {am : Nat → Nat} (G0 : LC s dC dI ci am) {i u v : Nat} (hu : u + 18 ≤ 600000) (hv : v + 3323 ≤ 7302250) (hi : i + 7 ≤ L) {H : Heap} {locs : List Loc} {ls : Array Slot} (hX : LX s dC dI a0 ci am H locs) (hl : lv_has ls 4 [(0, .ref b), (1, .ref a0), (2, .ref (am 0)), (3, .int (nI i))]) (kk : ∀ (H : Heap) (locs : List Loc), LX s dC dI a0 ci am H locs → W p l e room_1 s m #[Value.ref b] below meth c H locs (u + 18) (v + 3323) (lw_Z below #[Value.ref b] s) (F0 m 1216 ls [])) : W p l e room_1 s m #[Value.ref b] below meth c H locs u v (lw_Z below #[Value.ref b] s) (F0 m 1120 ls []) := by
  obtain ⟨hx, hb, hr, hml, hown, hts0, hXs, hbl, hlocks, hgv⟩ := id C0
  have hts : ∀ w ∈ wsL_law, w.before #[Value.ref b] s = true := fun w h => hts0 w (wsL_law_in w h)
  have hown : s.vm.findClass RL = some m.cls := hown
  obtain ⟨hK, hN, g3, g4⟩ := id G0
  obtain ⟨Z, st, ln, sv, kv, cu, r, hKI, hMK, hIZ, hB0, hPm, hS⟩ := hX
  have hbA : ¬ (fun q : Nat => s.heap.size ≤ q) b := Nat.not_le.mpr hbl
  have fA : ∀ q, Ac s am q → (fun q : Nat => s.heap.size ≤ q) q := fun q h => h.1
  have fM : ∀ q, Ax 7 am q → (fun q : Nat => s.heap.size ≤ q) q := fun q ⟨k, h1, h2⟩ => by rw [h2]; exact g4 k h1
  refine lv_aload_n hx hb dL_law_1120 rfl (lv_at hl 1 rfl) ?_
  refine lv_aload_n hx hb dL_law_1121 rfl (lv_at hl 0 rfl) ?_
  refine lv_iload_n hx hb dL_law_1122 rfl (lv_at hl 3 rfl) ?_
  refine lv_iconst (v := (1 : Int32)) hx hb dL_law_1123 (by decide) ?_
  refine lv_iadd hx hb dL_law_1124 ?_
  refine va_sld hx hb hXs hbl hbA hS (s_in hi hL 1 rfl (by omega)) dL_law_1125 ?_
  refine lv_aload_n hx hb dL_law_1126 rfl (lv_at hl 0 rfl) ?_
  refine lv_iload_n hx hb dL_law_1127 rfl (lv_at hl 3 rfl) ?_
  refine lv_iconst (v := (2 : Int32)) hx hb dL_law_1128 (by decide) ?_
  refine lv_iadd hx hb dL_law_1129 ?_
  refine va_sld hx hb hXs hbl hbA hS (s_in hi hL 2 rfl (by omega)) dL_law_1130 ?_
  refine lv_aload_n hx hb dL_law_1131 rfl (lv_at hl 0 rfl) ?_
  refine lv_iload_n hx hb dL_law_1132 rfl (lv_at hl 3 rfl) ?_
  refine lv_iconst (v := (3 : Int32)) hx hb dL_law_1133 (by decide) ?_
  refine lv_iadd hx hb dL_law_1134 ?_
  refine va_sld hx hb hXs hbl hbA hS (s_in hi hL 3 rfl (by omega)) dL_law_1135 ?_
  have hq : PX6_in st cu (sI xs i 1) (sI xs i 2) (sI xs i 3) (fun (r9 : Int64) => r9 = (zIn Z.1 (sI xs i 1) (sI xs i 2) (sI xs i 3))) := cIn hKI.cs hIZ.1 (post := (fun (r9 : Int64) => r9 = (zIn Z.1 (sI xs i 1) (sI xs i 2) (sI xs i 3)))) (rfl)
  refine va_calll (va_runV (As := [.int (sI xs i 1), .int (sI xs i 2), .int (sI xs i 3)]) (rest := []) ⟨hx, hb, hml, hown, hts⟩ (qX6_in l dC dI ci (Ac s am) a0 st ln sv kv cu (sI xs i 1) (sI xs i 2) (sI xs i 3) _ hq) (cwV 3 hts gL_law_X6_in rfl rfl rfl (by decide +kernel) ⟨Nat.le_of_ble_eq_true rfl, Nat.le_of_ble_eq_true rfl⟩) ⟨xk_blind, xB_recv hK hB0, xk_pre hB0 hK hN (newA hS.1 hPm)⟩ rfl rfl hl.1 rfl (lv_room (Nat.le_of_ble_eq_true rfl)) dL_law_1136 ⟨(show u + 0 ≤ 600000 by omega), (show v + 0 ≤ 7302250 by omega)⟩) hS (fun q _ h => fA q h) fA (fun ra _ t9 H1 locs1 ht hvm hwA hB _ hk1 hS1 => ?_)
  refine W.cs (cells' := u) (slots' := v) rfl rfl ?_
  have hB1 := xB_th ht hB
  have hPm := keepA hPm hk1
  have hS := hS1
  refine lv_aload_n hx hb dL_law_1139 rfl (lv_at hl 2 rfl) ?_
  refine lv_aload_n hx hb dL_law_1140 rfl (lv_at hl 0 rfl) ?_
  refine lv_iload_n hx hb dL_law_1141 rfl (lv_at hl 3 rfl) ?_
  refine lv_iconst (v := (1 : Int32)) hx hb dL_law_1142 (by decide) ?_
  refine lv_iadd hx hb dL_law_1143 ?_
  refine va_sld hx hb hXs hbl hbA hS (s_in hi hL 1 rfl (by omega)) dL_law_1144 ?_
  refine lv_aload_n hx hb dL_law_1145 rfl (lv_at hl 0 rfl) ?_
  refine lv_iload_n hx hb dL_law_1146 rfl (lv_at hl 3 rfl) ?_
  refine lv_iconst (v := (2 : Int32)) hx hb dL_law_1147 (by decide) ?_
  refine lv_iadd hx hb dL_law_1148 ?_
  refine va_sld hx hb hXs hbl hbA hS (s_in hi hL 2 rfl (by omega)) dL_law_1149 ?_
  refine lv_aload_n hx hb dL_law_1150 rfl (lv_at hl 0 rfl) ?_
  refine lv_iload_n hx hb dL_law_1151 rfl (lv_at hl 3 rfl) ?_
  refine lv_iconst (v := (3 : Int32)) hx hb dL_law_1152 (by decide) ?_
  refine lv_iadd hx hb dL_law_1153 ?_
  refine va_sld hx hb hXs hbl hbA hS (s_in hi hL 3 rfl (by omega)) dL_law_1154 ?_
  have hq2 : PX7_in r (sI xs i 1) (sI xs i 2) (sI xs i 3) (fun (r9 : Int64) => r9 = (zIn Z.1 (sI xs i 1) (sI xs i 2) (sI xs i 3))) := mIn hMK.1 hIZ.1 (post := (fun (r9 : Int64) => r9 = (zIn Z.1 (sI xs i 1) (sI xs i 2) (sI xs i 3)))) (rfl)
  refine va_calll (va_runV (As := [.int (sI xs i 1), .int (sI xs i 2), .int (sI xs i 3)]) (rest := [.long ra]) ⟨hx, hb, hml, hown, hts⟩ (qX7_in l dC dI am ci (Ax 7 am) (Ax_D g3) r (sI xs i 1) (sI xs i 2) (sI xs i 3) _ hq2) (cwV 3 hts gL_law_X7_in rfl rfl rfl (by decide +kernel) ⟨Nat.le_of_ble_eq_true rfl, Nat.le_of_ble_eq_true rfl⟩) ⟨xr_blind, xr_recv (r := (RX7, TX7, 9)) hK hPm 0 (by decide) me_M rfl, xr_pre hPm hK⟩ rfl rfl hl.1 rfl (lv_room (Nat.le_of_ble_eq_true rfl)) dL_law_1155 ⟨(show u + 0 ≤ 600000 by omega), (show v + 0 ≤ 7302250 by omega)⟩) hS (fun q _ h => fM q h) fM (fun rb _ t9 H2 locs2 ht hvm hwB hB _ hk2 hS2 => ?_)
  refine W.cs (cells' := u) (slots' := v) rfl rfl ?_
  have hP2 := x_th ht hB
  have hB1 := xB_keep hB1 hk2
  refine W.widen (k := u + 18) (n := v + 3323) (by omega) (by omega) ?_
  exact xr_if_lcmp_eq (tgt := 1216) hx hb dL_law_1158 dL_law_1159 (by decide) (fun _ => kk H2 locs2 ⟨Z, st, ln, sv, kv, cu, r, hKI, hMK, hIZ, hB1, hP2, hS2⟩) (fun q => absurd ((hwA).trans (hwB).symm) q)
set_option maxHeartbeats 4000000 in
set_option maxRecDepth 100000 in
theorem lc_now {p : Program} {e : Env} {s : State} {m : MethodId} {below : List Frame} {meth : Method} {c : Code} (l : Launch) {b L : Nat} {xs : Nat → Int32} (hL : L ≤ 3584) (C0 : lw_At p s m meth c b L xs) {dC : Nat → ClassId} {dI : Nat → Nat → Nat} {a0 : Nat} {ci : Nat → ClassId} {am : Nat → Nat} (G0 : LC s dC dI ci am) {i u v : Nat} (hu : u + 18 ≤ 600000) (hv : v + 3323 ≤ 7302250) (hi : i + 7 ≤ L) {H : Heap} {locs : List Loc} {ls : Array Slot} (hX : LX s dC dI a0 ci am H locs) (hl : lv_has ls 4 [(0, .ref b), (1, .ref a0), (2, .ref (am 0)), (3, .int (nI i))]) (kk : ∀ (H : Heap) (locs : List Loc), LX s dC dI a0 ci am H locs → W p l e room_1 s m #[Value.ref b] below meth c H locs (u + 18) (v + 3323) (lw_Z below #[Value.ref b] s) (F0 m 1216 ls [])) : W p l e room_1 s m #[Value.ref b] below meth c H locs u v (lw_Z below #[Value.ref b] s) (F0 m 1164 ls []) := by
  obtain ⟨hx, hb, hr, hml, hown, hts0, hXs, hbl, hlocks, hgv⟩ := id C0
  have hts : ∀ w ∈ wsL_law, w.before #[Value.ref b] s = true := fun w h => hts0 w (wsL_law_in w h)
  have hown : s.vm.findClass RL = some m.cls := hown
  obtain ⟨hK, hN, g3, g4⟩ := id G0
  obtain ⟨Z, st, ln, sv, kv, cu, r, hKI, hMK, hIZ, hB0, hPm, hS⟩ := hX
  have hbA : ¬ (fun q : Nat => s.heap.size ≤ q) b := Nat.not_le.mpr hbl
  have fA : ∀ q, Ac s am q → (fun q : Nat => s.heap.size ≤ q) q := fun q h => h.1
  have fM : ∀ q, Ax 7 am q → (fun q : Nat => s.heap.size ≤ q) q := fun q ⟨k, h1, h2⟩ => by rw [h2]; exact g4 k h1
  refine lv_aload_n hx hb dL_law_1164 rfl (lv_at hl 1 rfl) ?_
  have hq : PX6_now st cu  (fun (r9 : Int64) => r9 = (s_tm Z.1)) := cNow hKI.cs (post := (fun (r9 : Int64) => r9 = (s_tm Z.1))) (rfl)
  refine va_calll (va_runV (As := []) (rest := []) ⟨hx, hb, hml, hown, hts⟩ (qX6_now l dC dI ci (Ac s am) a0 st ln sv kv cu  _ hq) (cwV 0 hts gL_law_X6_now rfl rfl rfl (by decide +kernel) ⟨Nat.le_of_ble_eq_true rfl, Nat.le_of_ble_eq_true rfl⟩) ⟨xk_blind, xB_recv hK hB0, xk_pre hB0 hK hN (newA hS.1 hPm)⟩ rfl rfl hl.1 rfl (lv_room (Nat.le_of_ble_eq_true rfl)) dL_law_1165 ⟨(show u + 0 ≤ 600000 by omega), (show v + 0 ≤ 7302250 by omega)⟩) hS (fun q _ h => fA q h) fA (fun ra _ t9 H1 locs1 ht hvm hwA hB _ hk1 hS1 => ?_)
  refine W.cs (cells' := u) (slots' := v) rfl rfl ?_
  have hB1 := xB_th ht hB
  have hPm := keepA hPm hk1
  have hS := hS1
  refine lv_aload_n hx hb dL_law_1168 rfl (lv_at hl 2 rfl) ?_
  have hq2 : PX7_now r  (fun (r9 : Int64) => r9 = (s_tm Z.1)) := mNow hMK.1 (post := (fun (r9 : Int64) => r9 = (s_tm Z.1))) (rfl)
  refine va_calll (va_runV (As := []) (rest := [.long ra]) ⟨hx, hb, hml, hown, hts⟩ (qX7_now l dC dI am ci (Ax 7 am) (Ax_D g3) r  _ hq2) (cwV 0 hts gL_law_X7_now rfl rfl rfl (by decide +kernel) ⟨Nat.le_of_ble_eq_true rfl, Nat.le_of_ble_eq_true rfl⟩) ⟨xr_blind, xr_recv (r := (RX7, TX7, 9)) hK hPm 0 (by decide) me_M rfl, xr_pre hPm hK⟩ rfl rfl hl.1 rfl (lv_room (Nat.le_of_ble_eq_true rfl)) dL_law_1169 ⟨(show u + 0 ≤ 600000 by omega), (show v + 0 ≤ 7302250 by omega)⟩) hS (fun q _ h => fM q h) fM (fun rb _ t9 H2 locs2 ht hvm hwB hB _ hk2 hS2 => ?_)
  refine W.cs (cells' := u) (slots' := v) rfl rfl ?_
  have hP2 := x_th ht hB
  have hB1 := xB_keep hB1 hk2
  refine W.widen (k := u + 18) (n := v + 3323) (by omega) (by omega) ?_
  exact xr_if_lcmp_eq (tgt := 1216) hx hb dL_law_1172 dL_law_1173 (by decide) (fun _ => kk H2 locs2 ⟨Z, st, ln, sv, kv, cu, r, hKI, hMK, hIZ, hB1, hP2, hS2⟩) (fun q => absurd ((hwA).trans (hwB).symm) q)
set_option maxHeartbeats 4000000 in
set_option maxRecDepth 100000 in
theorem lc_undo {p : Program} {e : Env} {s : State} {m : MethodId} {below : List Frame} {meth : Method} {c : Code} (l : Launch) {b L : Nat} {xs : Nat → Int32} (hL : L ≤ 3584) (C0 : lw_At p s m meth c b L xs) {dC : Nat → ClassId} {dI : Nat → Nat → Nat} {a0 : Nat} {ci : Nat → ClassId} {am : Nat → Nat} (G0 : LC s dC dI ci am) {i u v : Nat} (hu : u + 18 ≤ 600000) (hv : v + 3323 ≤ 7302250) (hi : i + 7 ≤ L) {H : Heap} {locs : List Loc} {ls : Array Slot} (hX : LX s dC dI a0 ci am H locs) (hl : lv_has ls 4 [(0, .ref b), (1, .ref a0), (2, .ref (am 0)), (3, .int (nI i))]) (kk : ∀ (H : Heap) (locs : List Loc), LX s dC dI a0 ci am H locs → W p l e room_1 s m #[Value.ref b] below meth c H locs (u + 18) (v + 3323) (lw_Z below #[Value.ref b] s) (F0 m 1216 ls [])) : W p l e room_1 s m #[Value.ref b] below meth c H locs u v (lw_Z below #[Value.ref b] s) (F0 m 1178 ls []) := by
  obtain ⟨hx, hb, hr, hml, hown, hts0, hXs, hbl, hlocks, hgv⟩ := id C0
  have hts : ∀ w ∈ wsL_law, w.before #[Value.ref b] s = true := fun w h => hts0 w (wsL_law_in w h)
  have hown : s.vm.findClass RL = some m.cls := hown
  obtain ⟨hK, hN, g3, g4⟩ := id G0
  obtain ⟨Z, st, ln, sv, kv, cu, r, hKI, hMK, hIZ, hB0, hPm, hS⟩ := hX
  have hbA : ¬ (fun q : Nat => s.heap.size ≤ q) b := Nat.not_le.mpr hbl
  have fA : ∀ q, Ac s am q → (fun q : Nat => s.heap.size ≤ q) q := fun q h => h.1
  have fM : ∀ q, Ax 7 am q → (fun q : Nat => s.heap.size ≤ q) q := fun q ⟨k, h1, h2⟩ => by rw [h2]; exact g4 k h1
  refine lv_aload_n hx hb dL_law_1178 rfl (lv_at hl 1 rfl) ?_
  have hq : PX6_undo kv cu  (fun (r9 : Int64) (kv' : KvV) (cu' : Nat) => r9 = (zUndo Z ).1 ∧ KI st kv' cu' (zUndo Z ).2) := cUndo hKI (post := (fun (r9 : Int64) (kv' : KvV) (cu' : Nat) => r9 = (zUndo Z ).1 ∧ KI st kv' cu' (zUndo Z ).2)) (fun kv' cu' hk => ⟨rfl, hk⟩)
  refine va_calll (va_runV (As := []) (rest := []) ⟨hx, hb, hml, hown, hts⟩ (qX6_undo l dC dI ci (Ac s am) a0 st ln sv kv cu  _ hq) (cwV 0 hts gL_law_X6_undo rfl rfl rfl (by decide +kernel) ⟨Nat.le_of_ble_eq_true rfl, Nat.le_of_ble_eq_true rfl⟩) ⟨xk_blind, xB_recv hK hB0, xk_pre hB0 hK hN (newA hS.1 hPm)⟩ rfl rfl hl.1 rfl (lv_room (Nat.le_of_ble_eq_true rfl)) dL_law_1179 ⟨(show u + 0 ≤ 600000 by omega), (show v + 0 ≤ 7302250 by omega)⟩) hS (fun q _ h => fA q h) fA (fun ra u9 t9 H1 locs1 ht hvm hwA hB _ hk1 hS1 => ?_)
  refine W.cs (cells' := u) (slots' := v) rfl rfl ?_
  obtain ⟨kv1, cu1⟩ := u9
  have hB1 := xB_th ht hB
  have hPm := keepA hPm hk1
  have hS := hS1
  refine lv_aload_n hx hb dL_law_1182 rfl (lv_at hl 2 rfl) ?_
  have hq2 : PX7_undo r  (fun (r9 : Int64) (r' : MmV) => r9 = (zUndo Z ).1 ∧ MK r' (zUndo Z ).2) := mUndo hMK (post := (fun (r9 : Int64) (r' : MmV) => r9 = (zUndo Z ).1 ∧ MK r' (zUndo Z ).2)) (fun r' hk => ⟨rfl, hk⟩)
  refine va_calll (va_runV (As := []) (rest := [.long ra]) ⟨hx, hb, hml, hown, hts⟩ (qX7_undo l dC dI am ci (Ax 7 am) (Ax_D g3) r  _ hq2) (cwV 0 hts gL_law_X7_undo rfl rfl rfl (by decide +kernel) ⟨Nat.le_of_ble_eq_true rfl, Nat.le_of_ble_eq_true rfl⟩) ⟨xr_blind, xr_recv (r := (RX7, TX7, 9)) hK hPm 0 (by decide) me_M rfl, xr_pre hPm hK⟩ rfl rfl hl.1 rfl (lv_room (Nat.le_of_ble_eq_true rfl)) dL_law_1183 ⟨(show u + 0 ≤ 600000 by omega), (show v + 0 ≤ 7302250 by omega)⟩) hS (fun q _ h => fM q h) fM (fun rb r1 t9 H2 locs2 ht hvm hwB hB _ hk2 hS2 => ?_)
  refine W.cs (cells' := u) (slots' := v) rfl rfl ?_
  have hP2 := x_th ht hB
  have hB1 := xB_keep hB1 hk2
  refine W.widen (k := u + 18) (n := v + 3323) (by omega) (by omega) ?_
  exact xr_if_lcmp_eq (tgt := 1216) hx hb dL_law_1186 dL_law_1187 (by decide) (fun _ => kk H2 locs2 ⟨(zUndo Z ).2, st, ln, sv, kv1, cu1, r1, hwA.2, hwB.2, hIZ.undo, hB1, hP2, hS2⟩) (fun q => absurd ((hwA.1).trans (hwB.1).symm) q)
set_option maxHeartbeats 4000000 in
set_option maxRecDepth 100000 in
theorem lc_count {p : Program} {e : Env} {s : State} {m : MethodId} {below : List Frame} {meth : Method} {c : Code} (l : Launch) {b L : Nat} {xs : Nat → Int32} (hL : L ≤ 3584) (C0 : lw_At p s m meth c b L xs) {dC : Nat → ClassId} {dI : Nat → Nat → Nat} {a0 : Nat} {ci : Nat → ClassId} {am : Nat → Nat} (G0 : LC s dC dI ci am) {i u v : Nat} (hu : u + 18 ≤ 600000) (hv : v + 3323 ≤ 7302250) (hi : i + 7 ≤ L) {H : Heap} {locs : List Loc} {ls : Array Slot} (hX : LX s dC dI a0 ci am H locs) (hl : lv_has ls 4 [(0, .ref b), (1, .ref a0), (2, .ref (am 0)), (3, .int (nI i))]) (kk : ∀ (H : Heap) (locs : List Loc), LX s dC dI a0 ci am H locs → W p l e room_1 s m #[Value.ref b] below meth c H locs (u + 18) (v + 3323) (lw_Z below #[Value.ref b] s) (F0 m 1216 ls [])) : W p l e room_1 s m #[Value.ref b] below meth c H locs u v (lw_Z below #[Value.ref b] s) (F0 m 1192 ls []) := by
  obtain ⟨hx, hb, hr, hml, hown, hts0, hXs, hbl, hlocks, hgv⟩ := id C0
  have hts : ∀ w ∈ wsL_law, w.before #[Value.ref b] s = true := fun w h => hts0 w (wsL_law_in w h)
  have hown : s.vm.findClass RL = some m.cls := hown
  obtain ⟨hK, hN, g3, g4⟩ := id G0
  obtain ⟨Z, st, ln, sv, kv, cu, r, hKI, hMK, hIZ, hB0, hPm, hS⟩ := hX
  have hbA : ¬ (fun q : Nat => s.heap.size ≤ q) b := Nat.not_le.mpr hbl
  have fA : ∀ q, Ac s am q → (fun q : Nat => s.heap.size ≤ q) q := fun q h => h.1
  have fM : ∀ q, Ax 7 am q → (fun q : Nat => s.heap.size ≤ q) q := fun q ⟨k, h1, h2⟩ => by rw [h2]; exact g4 k h1
  refine lv_aload_n hx hb dL_law_1192 rfl (lv_at hl 1 rfl) ?_
  refine lv_aload_n hx hb dL_law_1193 rfl (lv_at hl 0 rfl) ?_
  refine lv_iload_n hx hb dL_law_1194 rfl (lv_at hl 3 rfl) ?_
  refine lv_iconst (v := (1 : Int32)) hx hb dL_law_1195 (by decide) ?_
  refine lv_iadd hx hb dL_law_1196 ?_
  refine va_sld hx hb hXs hbl hbA hS (s_in hi hL 1 rfl (by omega)) dL_law_1197 ?_
  have hq : PX6_count st kv cu (sI xs i 1) (fun (r9 : Int64) => r9 = (zCnt Z (sI xs i 1))) := cCnt hKI (post := (fun (r9 : Int64) => r9 = (zCnt Z (sI xs i 1)))) (rfl)
  refine va_calll (va_runV (As := [.int (sI xs i 1)]) (rest := []) ⟨hx, hb, hml, hown, hts⟩ (qX6_count l dC dI ci (Ac s am) a0 st ln sv kv cu (sI xs i 1) _ hq) (cwV 1 hts gL_law_X6_count rfl rfl rfl (by decide +kernel) ⟨Nat.le_of_ble_eq_true rfl, Nat.le_of_ble_eq_true rfl⟩) ⟨xk_blind, xB_recv hK hB0, xk_pre hB0 hK hN (newA hS.1 hPm)⟩ rfl rfl hl.1 rfl (lv_room (Nat.le_of_ble_eq_true rfl)) dL_law_1198 ⟨(show u + 0 ≤ 600000 by omega), (show v + 0 ≤ 7302250 by omega)⟩) hS (fun q _ h => fA q h) fA (fun ra _ t9 H1 locs1 ht hvm hwA hB _ hk1 hS1 => ?_)
  refine W.cs (cells' := u) (slots' := v) rfl rfl ?_
  have hB1 := xB_th ht hB
  have hPm := keepA hPm hk1
  have hS := hS1
  refine lv_aload_n hx hb dL_law_1201 rfl (lv_at hl 2 rfl) ?_
  refine lv_aload_n hx hb dL_law_1202 rfl (lv_at hl 0 rfl) ?_
  refine lv_iload_n hx hb dL_law_1203 rfl (lv_at hl 3 rfl) ?_
  refine lv_iconst (v := (1 : Int32)) hx hb dL_law_1204 (by decide) ?_
  refine lv_iadd hx hb dL_law_1205 ?_
  refine va_sld hx hb hXs hbl hbA hS (s_in hi hL 1 rfl (by omega)) dL_law_1206 ?_
  have hq2 : PX7_count r (sI xs i 1) (fun (r9 : Int64) => r9 = (zCnt Z (sI xs i 1))) := mCnt hMK (post := (fun (r9 : Int64) => r9 = (zCnt Z (sI xs i 1)))) (rfl)
  refine va_calll (va_runV (As := [.int (sI xs i 1)]) (rest := [.long ra]) ⟨hx, hb, hml, hown, hts⟩ (qX7_count l dC dI am ci (Ax 7 am) (Ax_D g3) r (sI xs i 1) _ hq2) (cwV 1 hts gL_law_X7_count rfl rfl rfl (by decide +kernel) ⟨Nat.le_of_ble_eq_true rfl, Nat.le_of_ble_eq_true rfl⟩) ⟨xr_blind, xr_recv (r := (RX7, TX7, 9)) hK hPm 0 (by decide) me_M rfl, xr_pre hPm hK⟩ rfl rfl hl.1 rfl (lv_room (Nat.le_of_ble_eq_true rfl)) dL_law_1207 ⟨(show u + 0 ≤ 600000 by omega), (show v + 0 ≤ 7302250 by omega)⟩) hS (fun q _ h => fM q h) fM (fun rb _ t9 H2 locs2 ht hvm hwB hB _ hk2 hS2 => ?_)
  refine W.cs (cells' := u) (slots' := v) rfl rfl ?_
  have hP2 := x_th ht hB
  have hB1 := xB_keep hB1 hk2
  refine W.widen (k := u + 18) (n := v + 3323) (by omega) (by omega) ?_
  exact xr_if_lcmp_eq (tgt := 1216) hx hb dL_law_1210 dL_law_1211 (by decide) (fun _ => kk H2 locs2 ⟨Z, st, ln, sv, kv, cu, r, hKI, hMK, hIZ, hB1, hP2, hS2⟩) (fun q => absurd ((hwA).trans (hwB).symm) q)
