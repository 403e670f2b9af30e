set_option maxHeartbeats 4000000 in
set_option maxRecDepth 100000 in
theorem lc_go {p : Program} {e : Env} {s : State} {m : MethodId} {below : List Frame} {meth : Method} {c : Code} (l : Launch) {b L : Nat} {xs : Nat → Int32} (hL : L ≤ 3584) (C0 : lw_At p s m meth c b L xs) {dC : Nat → ClassId} {dI : Nat → Nat → Nat} {a0 : Nat} {ci : Nat → ClassId} {am : Nat → Nat} (G0 : LC s dC dI ci am) {i u v : Nat} (hu : u + 18 ≤ 600000) (hv : v + 3323 ≤ 7302250) (hi : i + 7 ≤ L) {H : Heap} {locs : List Loc} {ls : Array Slot} (hX : LX s dC dI a0 ci am H locs) (hl : lv_has ls 4 [(0, .ref b), (1, .ref a0), (2, .ref (am 0)), (3, .int (nI i))]) (kk : ∀ (H : Heap) (locs : List Loc), LX s dC dI a0 ci am H locs → W p l e room_1 s m #[Value.ref b] below meth c H locs (u + 18) (v + 3323) (lw_Z below #[Value.ref b] s) (F0 m 1216 ls [])) : W p l e room_1 s m #[Value.ref b] below meth c H locs u v (lw_Z below #[Value.ref b] s) (F0 m 898 ls []) := by
  obtain ⟨hx, hb, hr, hml, hown, hts0, hXs, hbl, hlocks, hgv⟩ := id C0
  have hts : ∀ w ∈ wsL_law, w.before #[Value.ref b] s = true := fun w h => hts0 w (wsL_law_in w h)
  have hown : s.vm.findClass RL = some m.cls := hown
  obtain ⟨hK, hN, g3, g4⟩ := id G0
  obtain ⟨Z, st, ln, sv, kv, cu, r, hKI, hMK, hIZ, hB0, hPm, hS⟩ := hX
  have hbA : ¬ (fun q : Nat => s.heap.size ≤ q) b := Nat.not_le.mpr hbl
  have fA : ∀ q, Ac s am q → (fun q : Nat => s.heap.size ≤ q) q := fun q h => h.1
  have fM : ∀ q, Ax 7 am q → (fun q : Nat => s.heap.size ≤ q) q := fun q ⟨k, h1, h2⟩ => by rw [h2]; exact g4 k h1
  refine lv_aload_n hx hb dL_law_898 rfl (lv_at hl 1 rfl) ?_
  refine lv_aload_n hx hb dL_law_899 rfl (lv_at hl 0 rfl) ?_
  refine lv_iload_n hx hb dL_law_900 rfl (lv_at hl 3 rfl) ?_
  refine lv_iconst (v := (1 : Int32)) hx hb dL_law_901 (by decide) ?_
  refine lv_iadd hx hb dL_law_902 ?_
  refine va_sld hx hb hXs hbl hbA hS (s_in hi hL 1 rfl (by omega)) dL_law_903 ?_
  refine lv_i2l hx hb dL_law_904 rfl ?_
  refine lv_bipush (v := (32 : Int32)) hx hb dL_law_905 (by decide) ?_
  refine lv_lshl hx hb dL_law_907 rfl ?_
  refine lv_aload_n hx hb dL_law_908 rfl (lv_at hl 0 rfl) ?_
  refine lv_iload_n hx hb dL_law_909 rfl (lv_at hl 3 rfl) ?_
  refine lv_iconst (v := (2 : Int32)) hx hb dL_law_910 (by decide) ?_
  refine lv_iadd hx hb dL_law_911 ?_
  refine va_sld hx hb hXs hbl hbA hS (s_in hi hL 2 rfl (by omega)) dL_law_912 ?_
  refine lv_i2l hx hb dL_law_913 rfl ?_
  refine lv_ldc2 (v := (4294967295 : Int64)) hx hb hown (hts _ wL_k13) dL_law_914 ?_
  refine lv_land hx hb dL_law_917 ?_
  refine lv_lor hx hb dL_law_918 ?_
  have hq : PX6_go st ln kv cu (sJ xs i 1 2) (fun (r9 : Int64) (st' : Nat → StV) (ln' : Nat → LnV) (kv' : KvV) => r9 = (zGo Z (sJ xs i 1 2)).1 ∧ KI st' kv' cu (zGo Z (sJ xs i 1 2)).2) := cGo hKI hIZ.1 (post := (fun (r9 : Int64) (st' : Nat → StV) (ln' : Nat → LnV) (kv' : KvV) => r9 = (zGo Z (sJ xs i 1 2)).1 ∧ KI st' kv' cu (zGo Z (sJ xs i 1 2)).2)) (fun st' ln' kv' hk => ⟨rfl, hk⟩)
  refine va_calll (va_runV (As := [.long (sJ xs i 1 2)]) (rest := []) ⟨hx, hb, hml, hown, hts⟩ (qX6_go l dC dI ci (Ac s am) a0 st ln sv kv cu (sJ xs i 1 2) _ hq) (cwV 1 hts gL_law_X6_go rfl rfl rfl (by decide +kernel) ⟨Nat.le_of_ble_eq_true rfl, Nat.le_of_ble_eq_true rfl⟩) ⟨xk_blind, xB_recv hK hB0, xk_pre hB0 hK hN (newA hS.1 hPm)⟩ rfl rfl hl.1 rfl (lv_room (Nat.le_of_ble_eq_true rfl)) dL_law_919 ⟨(show u + 18 ≤ 600000 by omega), (show v + 3323 ≤ 7302250 by omega)⟩) hS (fun q _ h => fA q h) fA (fun ra u9 t9 H1 locs1 ht hvm hwA hB _ hk1 hS1 => ?_)
  refine W.cs (cells' := u + 18) (slots' := v + 3323) rfl rfl ?_
  obtain ⟨st1, ln1, kv1⟩ := u9
  have hB1 := xB_th ht hB
  have hPm := keepA hPm hk1
  have hS := hS1
  refine lv_aload_n hx hb dL_law_922 rfl (lv_at hl 2 rfl) ?_
  refine lv_aload_n hx hb dL_law_923 rfl (lv_at hl 0 rfl) ?_
  refine lv_iload_n hx hb dL_law_924 rfl (lv_at hl 3 rfl) ?_
  refine lv_iconst (v := (1 : Int32)) hx hb dL_law_925 (by decide) ?_
  refine lv_iadd hx hb dL_law_926 ?_
  refine va_sld hx hb hXs hbl hbA hS (s_in hi hL 1 rfl (by omega)) dL_law_927 ?_
  refine lv_i2l hx hb dL_law_928 rfl ?_
  refine lv_bipush (v := (32 : Int32)) hx hb dL_law_929 (by decide) ?_
  refine lv_lshl hx hb dL_law_931 rfl ?_
  refine lv_aload_n hx hb dL_law_932 rfl (lv_at hl 0 rfl) ?_
  refine lv_iload_n hx hb dL_law_933 rfl (lv_at hl 3 rfl) ?_
  refine lv_iconst (v := (2 : Int32)) hx hb dL_law_934 (by decide) ?_
  refine lv_iadd hx hb dL_law_935 ?_
  refine va_sld hx hb hXs hbl hbA hS (s_in hi hL 2 rfl (by omega)) dL_law_936 ?_
  refine lv_i2l hx hb dL_law_937 rfl ?_
  refine lv_ldc2 (v := (4294967295 : Int64)) hx hb hown (hts _ wL_k13) dL_law_938 ?_
  refine lv_land hx hb dL_law_941 ?_
  refine lv_lor hx hb dL_law_942 ?_
  have hq2 : PX7_go r (sJ xs i 1 2) (fun (r9 : Int64) (r' : MmV) => r9 = (zGo Z (sJ xs i 1 2)).1 ∧ MK r' (zGo Z (sJ xs i 1 2)).2) := mGo hMK hIZ.1 (post := (fun (r9 : Int64) (r' : MmV) => r9 = (zGo Z (sJ xs i 1 2)).1 ∧ MK r' (zGo Z (sJ xs i 1 2)).2)) (fun r' hk => ⟨rfl, hk⟩)
  refine va_calll (va_runV (As := [.long (sJ xs i 1 2)]) (rest := [.long ra]) ⟨hx, hb, hml, hown, hts⟩ (qX7_go l dC dI am ci (Ax 7 am) (Ax_D g3) r (sJ xs i 1 2) _ hq2) (cwV 1 hts gL_law_X7_go rfl rfl rfl (by decide +kernel) ⟨Nat.le_of_ble_eq_true rfl, Nat.le_of_ble_eq_true rfl⟩) ⟨xr_blind, xr_recv (r := (RX7, TX7, 9)) hK hPm 0 (by decide) me_M rfl, xr_pre hPm hK⟩ rfl rfl hl.1 rfl (lv_room (Nat.le_of_ble_eq_true rfl)) dL_law_943 ⟨(show u + 18 + 0 ≤ 600000 by omega), (show v + 3323 + 0 ≤ 7302250 by omega)⟩) hS (fun q _ h => fM q h) fM (fun rb r1 t9 H2 locs2 ht hvm hwB hB _ hk2 hS2 => ?_)
  refine W.cs (cells' := u + 18) (slots' := v + 3323) rfl rfl ?_
  have hP2 := x_th ht hB
  have hB1 := xB_keep hB1 hk2
  exact xr_if_lcmp_eq (tgt := 1216) hx hb dL_law_946 dL_law_947 (by decide) (fun _ => kk H2 locs2 ⟨(zGo Z (sJ xs i 1 2)).2, st1, ln1, sv, kv1, cu, r1, hwA.2, hwB.2, zGo_I hIZ (sJ xs i 1 2), hB1, hP2, hS2⟩) (fun q => absurd ((hwA.1).trans (hwB.1).symm) q)
set_option maxHeartbeats 4000000 in
set_option maxRecDepth 100000 in
theorem lc_went {p : Program} {e : Env} {s : State} {m : MethodId} {below : List Frame} {meth : Method} {c : Code} (l : Launch) {b L : Nat} {xs : Nat → Int32} (hL : L ≤ 3584) (C0 : lw_At p s m meth c b L xs) {dC : Nat → ClassId} {dI : Nat → Nat → Nat} {a0 : Nat} {ci : Nat → ClassId} {am : Nat → Nat} (G0 : LC s dC dI ci am) {i u v : Nat} (hu : u + 18 ≤ 600000) (hv : v + 3323 ≤ 7302250) (hi : i + 7 ≤ L) {H : Heap} {locs : List Loc} {ls : Array Slot} (hX : LX s dC dI a0 ci am H locs) (hl : lv_has ls 4 [(0, .ref b), (1, .ref a0), (2, .ref (am 0)), (3, .int (nI i))]) (kk : ∀ (H : Heap) (locs : List Loc), LX s dC dI a0 ci am H locs → W p l e room_1 s m #[Value.ref b] below meth c H locs (u + 18) (v + 3323) (lw_Z below #[Value.ref b] s) (F0 m 1216 ls [])) : W p l e room_1 s m #[Value.ref b] below meth c H locs u v (lw_Z below #[Value.ref b] s) (F0 m 952 ls []) := by
  obtain ⟨hx, hb, hr, hml, hown, hts0, hXs, hbl, hlocks, hgv⟩ := id C0
  have hts : ∀ w ∈ wsL_law, w.before #[Value.ref b] s = true := fun w h => hts0 w (wsL_law_in w h)
  have hown : s.vm.findClass RL = some m.cls := hown
  obtain ⟨hK, hN, g3, g4⟩ := id G0
  obtain ⟨Z, st, ln, sv, kv, cu, r, hKI, hMK, hIZ, hB0, hPm, hS⟩ := hX
  have hbA : ¬ (fun q : Nat => s.heap.size ≤ q) b := Nat.not_le.mpr hbl
  have fA : ∀ q, Ac s am q → (fun q : Nat => s.heap.size ≤ q) q := fun q h => h.1
  have fM : ∀ q, Ax 7 am q → (fun q : Nat => s.heap.size ≤ q) q := fun q ⟨k, h1, h2⟩ => by rw [h2]; exact g4 k h1
  refine lv_aload_n hx hb dL_law_952 rfl (lv_at hl 1 rfl) ?_
  refine lv_aload_n hx hb dL_law_953 rfl (lv_at hl 0 rfl) ?_
  refine lv_iload_n hx hb dL_law_954 rfl (lv_at hl 3 rfl) ?_
  refine lv_iconst (v := (1 : Int32)) hx hb dL_law_955 (by decide) ?_
  refine lv_iadd hx hb dL_law_956 ?_
  refine va_sld hx hb hXs hbl hbA hS (s_in hi hL 1 rfl (by omega)) dL_law_957 ?_
  refine lv_aload_n hx hb dL_law_958 rfl (lv_at hl 0 rfl) ?_
  refine lv_iload_n hx hb dL_law_959 rfl (lv_at hl 3 rfl) ?_
  refine lv_iconst (v := (2 : Int32)) hx hb dL_law_960 (by decide) ?_
  refine lv_iadd hx hb dL_law_961 ?_
  refine va_sld hx hb hXs hbl hbA hS (s_in hi hL 2 rfl (by omega)) dL_law_962 ?_
  have hq : PX6_went st cu (sI xs i 1) (sI xs i 2) (fun (r9 : Int64) => r9 = (zWent Z.1 (sI xs i 1) (sI xs i 2))) := cWent hKI.cs (post := (fun (r9 : Int64) => r9 = (zWent Z.1 (sI xs i 1) (sI xs i 2)))) (rfl)
  refine va_calll (va_runV (As := [.int (sI xs i 1), .int (sI xs i 2)]) (rest := []) ⟨hx, hb, hml, hown, hts⟩ (qX6_went l dC dI ci (Ac s am) a0 st ln sv kv cu (sI xs i 1) (sI xs i 2) _ hq) (cwV 2 hts gL_law_X6_went rfl rfl rfl (by decide +kernel) ⟨Nat.le_of_ble_eq_true rfl, Nat.le_of_ble_eq_true rfl⟩) ⟨xk_blind, xB_recv hK hB0, xk_pre hB0 hK hN (newA hS.1 hPm)⟩ rfl rfl hl.1 rfl (lv_room (Nat.le_of_ble_eq_true rfl)) dL_law_963 ⟨(show u + 0 ≤ 600000 by omega), (show v + 0 ≤ 7302250 by omega)⟩) hS (fun q _ h => fA q h) fA (fun ra _ t9 H1 locs1 ht hvm hwA hB _ hk1 hS1 => ?_)
  refine W.cs (cells' := u) (slots' := v) rfl rfl ?_
  have hB1 := xB_th ht hB
  have hPm := keepA hPm hk1
  have hS := hS1
  refine lv_aload_n hx hb dL_law_966 rfl (lv_at hl 2 rfl) ?_
  refine lv_aload_n hx hb dL_law_967 rfl (lv_at hl 0 rfl) ?_
  refine lv_iload_n hx hb dL_law_968 rfl (lv_at hl 3 rfl) ?_
  refine lv_iconst (v := (1 : Int32)) hx hb dL_law_969 (by decide) ?_
  refine lv_iadd hx hb dL_law_970 ?_
  refine va_sld hx hb hXs hbl hbA hS (s_in hi hL 1 rfl (by omega)) dL_law_971 ?_
  refine lv_aload_n hx hb dL_law_972 rfl (lv_at hl 0 rfl) ?_
  refine lv_iload_n hx hb dL_law_973 rfl (lv_at hl 3 rfl) ?_
  refine lv_iconst (v := (2 : Int32)) hx hb dL_law_974 (by decide) ?_
  refine lv_iadd hx hb dL_law_975 ?_
  refine va_sld hx hb hXs hbl hbA hS (s_in hi hL 2 rfl (by omega)) dL_law_976 ?_
  have hq2 : PX7_went r (sI xs i 1) (sI xs i 2) (fun (r9 : Int64) => r9 = (zWent Z.1 (sI xs i 1) (sI xs i 2))) := mWent hMK.1 (post := (fun (r9 : Int64) => r9 = (zWent Z.1 (sI xs i 1) (sI xs i 2)))) (rfl)
  refine va_calll (va_runV (As := [.int (sI xs i 1), .int (sI xs i 2)]) (rest := [.long ra]) ⟨hx, hb, hml, hown, hts⟩ (qX7_went l dC dI am ci (Ax 7 am) (Ax_D g3) r (sI xs i 1) (sI xs i 2) _ hq2) (cwV 2 hts gL_law_X7_went rfl rfl rfl (by decide +kernel) ⟨Nat.le_of_ble_eq_true rfl, Nat.le_of_ble_eq_true rfl⟩) ⟨xr_blind, xr_recv (r := (RX7, TX7, 9)) hK hPm 0 (by decide) me_M rfl, xr_pre hPm hK⟩ rfl rfl hl.1 rfl (lv_room (Nat.le_of_ble_eq_true rfl)) dL_law_977 ⟨(show u + 0 ≤ 600000 by omega), (show v + 0 ≤ 7302250 by omega)⟩) hS (fun q _ h => fM q h) fM (fun rb _ t9 H2 locs2 ht hvm hwB hB _ hk2 hS2 => ?_)
  refine W.cs (cells' := u) (slots' := v) rfl rfl ?_
  have hP2 := x_th ht hB
  have hB1 := xB_keep hB1 hk2
  refine W.widen (k := u + 18) (n := v + 3323) (by omega) (by omega) ?_
  exact xr_if_lcmp_eq (tgt := 1216) hx hb dL_law_980 dL_law_981 (by decide) (fun _ => kk H2 locs2 ⟨Z, st, ln, sv, kv, cu, r, hKI, hMK, hIZ, hB1, hP2, hS2⟩) (fun q => absurd ((hwA).trans (hwB).symm) q)
set_option maxHeartbeats 4000000 in
set_option maxRecDepth 100000 in
theorem lc_next {p : Program} {e : Env} {s : State} {m : MethodId} {below : List Frame} {meth : Method} {c : Code} (l : Launch) {b L : Nat} {xs : Nat → Int32} (hL : L ≤ 3584) (C0 : lw_At p s m meth c b L xs) {dC : Nat → ClassId} {dI : Nat → Nat → Nat} {a0 : Nat} {ci : Nat → ClassId} {am : Nat → Nat} (G0 : LC s dC dI ci am) {i u v : Nat} (hu : u + 18 ≤ 600000) (hv : v + 3323 ≤ 7302250) (hi : i + 7 ≤ L) {H : Heap} {locs : List Loc} {ls : Array Slot} (hX : LX s dC dI a0 ci am H locs) (hl : lv_has ls 4 [(0, .ref b), (1, .ref a0), (2, .ref (am 0)), (3, .int (nI i))]) (kk : ∀ (H : Heap) (locs : List Loc), LX s dC dI a0 ci am H locs → W p l e room_1 s m #[Value.ref b] below meth c H locs (u + 18) (v + 3323) (lw_Z below #[Value.ref b] s) (F0 m 1216 ls [])) : W p l e room_1 s m #[Value.ref b] below meth c H locs u v (lw_Z below #[Value.ref b] s) (F0 m 986 ls []) := by
  obtain ⟨hx, hb, hr, hml, hown, hts0, hXs, hbl, hlocks, hgv⟩ := id C0
  have hts : ∀ w ∈ wsL_law, w.before #[Value.ref b] s = true := fun w h => hts0 w (wsL_law_in w h)
  have hown : s.vm.findClass RL = some m.cls := hown
  obtain ⟨hK, hN, g3, g4⟩ := id G0
  obtain ⟨Z, st, ln, sv, kv, cu, r, hKI, hMK, hIZ, hB0, hPm, hS⟩ := hX
  have hbA : ¬ (fun q : Nat => s.heap.size ≤ q) b := Nat.not_le.mpr hbl
  have fA : ∀ q, Ac s am q → (fun q : Nat => s.heap.size ≤ q) q := fun q h => h.1
  have fM : ∀ q, Ax 7 am q → (fun q : Nat => s.heap.size ≤ q) q := fun q ⟨k, h1, h2⟩ => by rw [h2]; exact g4 k h1
  refine lv_aload_n hx hb dL_law_986 rfl (lv_at hl 1 rfl) ?_
  have hq : PX6_next st cu  (fun (r9 : Int64) => r9 = (zNext Z.1 )) := cNext hKI.cs (post := (fun (r9 : Int64) => r9 = (zNext Z.1 ))) (rfl)
  refine va_calll (va_runV (As := []) (rest := []) ⟨hx, hb, hml, hown, hts⟩ (qX6_next l dC dI ci (Ac s am) a0 st ln sv kv cu  _ hq) (cwV 0 hts gL_law_X6_next rfl rfl rfl (by decide +kernel) ⟨Nat.le_of_ble_eq_true rfl, Nat.le_of_ble_eq_true rfl⟩) ⟨xk_blind, xB_recv hK hB0, xk_pre hB0 hK hN (newA hS.1 hPm)⟩ rfl rfl hl.1 rfl (lv_room (Nat.le_of_ble_eq_true rfl)) dL_law_987 ⟨(show u + 0 ≤ 600000 by omega), (show v + 0 ≤ 7302250 by omega)⟩) hS (fun q _ h => fA q h) fA (fun ra _ t9 H1 locs1 ht hvm hwA hB _ hk1 hS1 => ?_)
  refine W.cs (cells' := u) (slots' := v) rfl rfl ?_
  have hB1 := xB_th ht hB
  have hPm := keepA hPm hk1
  have hS := hS1
  refine lv_aload_n hx hb dL_law_990 rfl (lv_at hl 2 rfl) ?_
  have hq2 : PX7_next r  (fun (r9 : Int64) => r9 = (zNext Z.1 )) := mNext hMK.1 (post := (fun (r9 : Int64) => r9 = (zNext Z.1 ))) (rfl)
  refine va_calll (va_runV (As := []) (rest := [.long ra]) ⟨hx, hb, hml, hown, hts⟩ (qX7_next l dC dI am ci (Ax 7 am) (Ax_D g3) r  _ hq2) (cwV 0 hts gL_law_X7_next rfl rfl rfl (by decide +kernel) ⟨Nat.le_of_ble_eq_true rfl, Nat.le_of_ble_eq_true rfl⟩) ⟨xr_blind, xr_recv (r := (RX7, TX7, 9)) hK hPm 0 (by decide) me_M rfl, xr_pre hPm hK⟩ rfl rfl hl.1 rfl (lv_room (Nat.le_of_ble_eq_true rfl)) dL_law_991 ⟨(show u + 0 ≤ 600000 by omega), (show v + 0 ≤ 7302250 by omega)⟩) hS (fun q _ h => fM q h) fM (fun rb _ t9 H2 locs2 ht hvm hwB hB _ hk2 hS2 => ?_)
  refine W.cs (cells' := u) (slots' := v) rfl rfl ?_
  have hP2 := x_th ht hB
  have hB1 := xB_keep hB1 hk2
  refine W.widen (k := u + 18) (n := v + 3323) (by omega) (by omega) ?_
  exact xr_if_lcmp_eq (tgt := 1216) hx hb dL_law_994 dL_law_995 (by decide) (fun _ => kk H2 locs2 ⟨Z, st, ln, sv, kv, cu, r, hKI, hMK, hIZ, hB1, hP2, hS2⟩) (fun q => absurd ((hwA).trans (hwB).symm) q)
set_option maxHeartbeats 4000000 in
set_option maxRecDepth 100000 in
theorem lc_fewest {p : Program} {e : Env} {s : State} {m : MethodId} {below : List Frame} {meth : Method} {c : Code} (l : Launch) {b L : Nat} {xs : Nat → Int32} (hL : L ≤ 3584) (C0 : lw_At p s m meth c b L xs) {dC : Nat → ClassId} {dI : Nat → Nat → Nat} {a0 : Nat} {ci : Nat → ClassId} {am : Nat → Nat} (G0 : LC s dC dI ci am) {i u v : Nat} (hu : u + 18 ≤ 600000) (hv : v + 3323 ≤ 7302250) (hi : i + 7 ≤ L) {H : Heap} {locs : List Loc} {ls : Array Slot} (hX : LX s dC dI a0 ci am H locs) (hl : lv_has ls 4 [(0, .ref b), (1, .ref a0), (2, .ref (am 0)), (3, .int (nI i))]) (kk : ∀ (H : Heap) (locs : List Loc), LX s dC dI a0 ci am H locs → W p l e room_1 s m #[Value.ref b] below meth c H locs (u + 18) (v + 3323) (lw_Z below #[Value.ref b] s) (F0 m 1216 ls [])) : W p l e room_1 s m #[Value.ref b] below meth c H locs u v (lw_Z below #[Value.ref b] s) (F0 m 1000 ls []) := by
  obtain ⟨hx, hb, hr, hml, hown, hts0, hXs, hbl, hlocks, hgv⟩ := id C0
  have hts : ∀ w ∈ wsL_law, w.before #[Value.ref b] s = true := fun w h => hts0 w (wsL_law_in w h)
  have hown : s.vm.findClass RL = some m.cls := hown
  obtain ⟨hK, hN, g3, g4⟩ := id G0
  obtain ⟨Z, st, ln, sv, kv, cu, r, hKI, hMK, hIZ, hB0, hPm, hS⟩ := hX
  have hbA : ¬ (fun q : Nat => s.heap.size ≤ q) b := Nat.not_le.mpr hbl
  have fA : ∀ q, Ac s am q → (fun q : Nat => s.heap.size ≤ q) q := fun q h => h.1
  have fM : ∀ q, Ax 7 am q → (fun q : Nat => s.heap.size ≤ q) q := fun q ⟨k, h1, h2⟩ => by rw [h2]; exact g4 k h1
  refine lv_aload_n hx hb dL_law_1000 rfl (lv_at hl 1 rfl) ?_
  have hq : PX6_fewest st ln sv cu  (fun (r9 : Int64) (_ : Nat → LnV) (_ : SvV) => r9 = (lN (plA Z.1 (Ft0 Z.1 200) (sL Z.1)))) := cFew hKI.cs hIZ.1 (post := (fun (r9 : Int64) (_ : Nat → LnV) (_ : SvV) => r9 = (lN (plA Z.1 (Ft0 Z.1 200) (sL Z.1))))) (fun _ _ => rfl)
  refine va_calll (va_runV (As := []) (rest := []) ⟨hx, hb, hml, hown, hts⟩ (qX6_fewest l dC dI ci (Ac s am) a0 st ln sv kv cu  _ hq) (cwV 0 hts gL_law_X6_fewest rfl rfl rfl (by decide +kernel) ⟨Nat.le_of_ble_eq_true rfl, Nat.le_of_ble_eq_true rfl⟩) ⟨xk_blind, xB_recv hK hB0, xk_pre hB0 hK hN (newA hS.1 hPm)⟩ rfl rfl hl.1 rfl (lv_room (Nat.le_of_ble_eq_true rfl)) dL_law_1001 ⟨(show u + 0 ≤ 600000 by omega), (show v + 0 ≤ 7302250 by omega)⟩) hS (fun q _ h => fA q h) fA (fun ra u9 t9 H1 locs1 ht hvm hwA hB _ hk1 hS1 => ?_)
  refine W.cs (cells' := u) (slots' := v) rfl rfl ?_
  obtain ⟨ln1, sv1⟩ := u9
  have hB1 := xB_th ht hB
  have hPm := keepA hPm hk1
  have hS := hS1
  refine lv_aload_n hx hb dL_law_1004 rfl (lv_at hl 2 rfl) ?_
  have hq2 : PX7_fewest r  (fun (r9 : Int64) (r' : MmV) => r9 = (lN (plA Z.1 (Ft0 Z.1 200) (sL Z.1))) ∧ MK r' Z) := mFew hMK hIZ.1 (post := (fun (r9 : Int64) (r' : MmV) => r9 = (lN (plA Z.1 (Ft0 Z.1 200) (sL Z.1))) ∧ MK r' Z)) (fun r' hk => ⟨rfl, hk⟩)
  refine va_calll (va_runV (As := []) (rest := [.long ra]) ⟨hx, hb, hml, hown, hts⟩ (qX7_fewest l dC dI am ci (Ax 7 am) (Ax_D g3) r  _ hq2) (cwV 0 hts gL_law_X7_fewest rfl rfl rfl (by decide +kernel) ⟨Nat.le_of_ble_eq_true rfl, Nat.le_of_ble_eq_true rfl⟩) ⟨xr_blind, xr_recv (r := (RX7, TX7, 9)) hK hPm 0 (by decide) me_M rfl, xr_pre hPm hK⟩ rfl rfl hl.1 rfl (lv_room (Nat.le_of_ble_eq_true rfl)) dL_law_1005 ⟨(show u + 0 ≤ 600000 by omega), (show v + 0 ≤ 7302250 by omega)⟩) hS (fun q _ h => fM q h) fM (fun rb r1 t9 H2 locs2 ht hvm hwB hB _ hk2 hS2 => ?_)
  refine W.cs (cells' := u) (slots' := v) rfl rfl ?_
  have hP2 := x_th ht hB
  have hB1 := xB_keep hB1 hk2
  refine W.widen (k := u + 18) (n := v + 3323) (by omega) (by omega) ?_
  exact xr_if_lcmp_eq (tgt := 1216) hx hb dL_law_1008 dL_law_1009 (by decide) (fun _ => kk H2 locs2 ⟨Z, st, ln1, sv1, kv, cu, r1, hKI, hwB.2, hIZ, hB1, hP2, hS2⟩) (fun q => absurd ((hwA).trans (hwB.1).symm) q)
set_option maxHeartbeats 4000000 in
set_option maxRecDepth 100000 in
theorem lc_settle {p : Program} {e : Env} {s : State} {m : MethodId} {below : List Frame} {meth : Method} {c : Code} (l : Launch) {b L : Nat} {xs : Nat → Int32} (hL : L ≤ 3584) (C0 : lw_At p s m meth c b L xs) {dC : Nat → ClassId} {dI : Nat → Nat → Nat} {a0 : Nat} {ci : Nat → ClassId} {am : Nat → Nat} (G0 : LC s dC dI ci am) {i u v : Nat} (hu : u + 18 ≤ 600000) (hv : v + 3323 ≤ 7302250) (hi : i + 7 ≤ L) {H : Heap} {locs : List Loc} {ls : Array Slot} (hX : LX s dC dI a0 ci am H locs) (hl : lv_has ls 4 [(0, .ref b), (1, .ref a0), (2, .ref (am 0)), (3, .int (nI i))]) (kk : ∀ (H : Heap) (locs : List Loc), LX s dC dI a0 ci am H locs → W p l e room_1 s m #[Value.ref b] below meth c H locs (u + 18) (v + 3323) (lw_Z below #[Value.ref b] s) (F0 m 1216 ls [])) : W p l e room_1 s m #[Value.ref b] below meth c H locs u v (lw_Z below #[Value.ref b] s) (F0 m 1014 ls []) := by
  obtain ⟨hx, hb, hr, hml, hown, hts0, hXs, hbl, hlocks, hgv⟩ := id C0
  have hts : ∀ w ∈ wsL_law, w.before #[Value.ref b] s = true := fun w h => hts0 w (wsL_law_in w h)
  have hown : s.vm.findClass RL = some m.cls := hown
  obtain ⟨hK, hN, g3, g4⟩ := id G0
  obtain ⟨Z, st, ln, sv, kv, cu, r, hKI, hMK, hIZ, hB0, hPm, hS⟩ := hX
  have hbA : ¬ (fun q : Nat => s.heap.size ≤ q) b := Nat.not_le.mpr hbl
  have fA : ∀ q, Ac s am q → (fun q : Nat => s.heap.size ≤ q) q := fun q h => h.1
  have fM : ∀ q, Ax 7 am q → (fun q : Nat => s.heap.size ≤ q) q := fun q ⟨k, h1, h2⟩ => by rw [h2]; exact g4 k h1
  refine lv_aload_n hx hb dL_law_1014 rfl (lv_at hl 1 rfl) ?_
  have hq : PX6_settle st ln sv kv cu  (fun (r9 : Int64) (st' : Nat → StV) (ln' : Nat → LnV) (sv' : SvV) (kv' : KvV) => r9 = (zSet Z ).1 ∧ KI st' kv' cu (zSet Z ).2) := cSet hKI hIZ.1 (post := (fun (r9 : Int64) (st' : Nat → StV) (ln' : Nat → LnV) (sv' : SvV) (kv' : KvV) => r9 = (zSet Z ).1 ∧ KI st' kv' cu (zSet Z ).2)) (fun st' ln' sv' kv' hk => ⟨rfl, hk⟩)
  refine va_calll (va_runV (As := []) (rest := []) ⟨hx, hb, hml, hown, hts⟩ (qX6_settle l dC dI ci (Ac s am) a0 st ln sv kv cu  _ hq) (cwV 0 hts gL_law_X6_settle rfl rfl rfl (by decide +kernel) ⟨Nat.le_of_ble_eq_true rfl, Nat.le_of_ble_eq_true rfl⟩) ⟨xk_blind, xB_recv hK hB0, xk_pre hB0 hK hN (newA hS.1 hPm)⟩ rfl rfl hl.1 rfl (lv_room (Nat.le_of_ble_eq_true rfl)) dL_law_1015 ⟨(show u + 18 ≤ 600000 by omega), (show v + 3323 ≤ 7302250 by omega)⟩) hS (fun q _ h => fA q h) fA (fun ra u9 t9 H1 locs1 ht hvm hwA hB _ hk1 hS1 => ?_)
  refine W.cs (cells' := u + 18) (slots' := v + 3323) rfl rfl ?_
  obtain ⟨st1, ln1, sv1, kv1⟩ := u9
  have hB1 := xB_th ht hB
  have hPm := keepA hPm hk1
  have hS := hS1
  refine lv_aload_n hx hb dL_law_1018 rfl (lv_at hl 2 rfl) ?_
  have hq2 : PX7_settle r  (fun (r9 : Int64) (r' : MmV) => r9 = (zSet Z ).1 ∧ MK r' (zSet Z ).2) := mSett hMK hIZ.1 (post := (fun (r9 : Int64) (r' : MmV) => r9 = (zSet Z ).1 ∧ MK r' (zSet Z ).2)) (fun r' hk => ⟨rfl, hk⟩)
  refine va_calll (va_runV (As := []) (rest := [.long ra]) ⟨hx, hb, hml, hown, hts⟩ (qX7_settle l dC dI am ci (Ax 7 am) (Ax_D g3) r  _ hq2) (cwV 0 hts gL_law_X7_settle rfl rfl rfl (by decide +kernel) ⟨Nat.le_of_ble_eq_true rfl, Nat.le_of_ble_eq_true rfl⟩) ⟨xr_blind, xr_recv (r := (RX7, TX7, 9)) hK hPm 0 (by decide) me_M rfl, xr_pre hPm hK⟩ rfl rfl hl.1 rfl (lv_room (Nat.le_of_ble_eq_true rfl)) dL_law_1019 ⟨(show u + 18 + 0 ≤ 600000 by omega), (show v + 3323 + 0 ≤ 7302250 by omega)⟩) hS (fun q _ h => fM q h) fM (fun rb r1 t9 H2 locs2 ht hvm hwB hB _ hk2 hS2 => ?_)
  refine W.cs (cells' := u + 18) (slots' := v + 3323) rfl rfl ?_
  have hP2 := x_th ht hB
  have hB1 := xB_keep hB1 hk2
  exact xr_if_lcmp_eq (tgt := 1216) hx hb dL_law_1022 dL_law_1023 (by decide) (fun _ => kk H2 locs2 ⟨(zSet Z ).2, st1, ln1, sv1, kv1, cu, r1, hwA.2, hwB.2, zSet_I hIZ , hB1, hP2, hS2⟩) (fun q => absurd ((hwA.1).trans (hwB.1).symm) q)
set_option maxHeartbeats 4000000 in
set_option maxRecDepth 100000 in
theorem lc_lies {p : Program} {e : Env} {s : State} {m : MethodId} {below : List Frame} {meth : Method} {c : Code} (l : Launch) {b L : Nat} {xs : Nat → Int32} (hL : L ≤ 3584) (C0 : lw_At p s m meth c b L xs) {dC : Nat → ClassId} {dI : Nat → Nat → Nat} {a0 : Nat} {ci : Nat → ClassId} {am : Nat → Nat} (G0 : LC s dC dI ci am) {i u v : Nat} (hu : u + 18 ≤ 600000) (hv : v + 3323 ≤ 7302250) (hi : i + 7 ≤ L) {H : Heap} {locs : List Loc} {ls : Array Slot} (hX : LX s dC dI a0 ci am H locs) (hl : lv_has ls 4 [(0, .ref b), (1, .ref a0), (2, .ref (am 0)), (3, .int (nI i))]) (kk : ∀ (H : Heap) (locs : List Loc), LX s dC dI a0 ci am H locs → W p l e room_1 s m #[Value.ref b] below meth c H locs (u + 18) (v + 3323) (lw_Z below #[Value.ref b] s) (F0 m 1216 ls [])) : W p l e room_1 s m #[Value.ref b] below meth c H locs u v (lw_Z below #[Value.ref b] s) (F0 m 1028 ls []) := by
  obtain ⟨hx, hb, hr, hml, hown, hts0, hXs, hbl, hlocks, hgv⟩ := id C0
  have hts : ∀ w ∈ wsL_law, w.before #[Value.ref b] s = true := fun w h => hts0 w (wsL_law_in w h)
  have hown : s.vm.findClass RL = some m.cls := hown
  obtain ⟨hK, hN, g3, g4⟩ := id G0
  obtain ⟨Z, st, ln, sv, kv, cu, r, hKI, hMK, hIZ, hB0, hPm, hS⟩ := hX
  have hbA : ¬ (fun q : Nat => s.heap.size ≤ q) b := Nat.not_le.mpr hbl
  have fA : ∀ q, Ac s am q → (fun q : Nat => s.heap.size ≤ q) q := fun q h => h.1
  have fM : ∀ q, Ax 7 am q → (fun q : Nat => s.heap.size ≤ q) q := fun q ⟨k, h1, h2⟩ => by rw [h2]; exact g4 k h1
  refine lv_aload_n hx hb dL_law_1028 rfl (lv_at hl 1 rfl) ?_
  refine lv_aload_n hx hb dL_law_1029 rfl (lv_at hl 0 rfl) ?_
  refine lv_iload_n hx hb dL_law_1030 rfl (lv_at hl 3 rfl) ?_
  refine lv_iconst (v := (1 : Int32)) hx hb dL_law_1031 (by decide) ?_
  refine lv_iadd hx hb dL_law_1032 ?_
  refine va_sld hx hb hXs hbl hbA hS (s_in hi hL 1 rfl (by omega)) dL_law_1033 ?_
  refine lv_aload_n hx hb dL_law_1034 rfl (lv_at hl 0 rfl) ?_
  refine lv_iload_n hx hb dL_law_1035 rfl (lv_at hl 3 rfl) ?_
  refine lv_iconst (v := (2 : Int32)) hx hb dL_law_1036 (by decide) ?_
  refine lv_iadd hx hb dL_law_1037 ?_
  refine va_sld hx hb hXs hbl hbA hS (s_in hi hL 2 rfl (by omega)) dL_law_1038 ?_
  have hq : PX6_lies st cu (sI xs i 1) (sI xs i 2) (fun (r9 : Int64) => r9 = (zLies Z.1 (sI xs i 1) (sI xs i 2))) := cLies hKI.cs hIZ.1 (post := (fun (r9 : Int64) => r9 = (zLies Z.1 (sI xs i 1) (sI xs i 2)))) (rfl)
  refine va_calll (va_runV (As := [.int (sI xs i 1), .int (sI xs i 2)]) (rest := []) ⟨hx, hb, hml, hown, hts⟩ (qX6_lies l dC dI ci (Ac s am) a0 st ln sv kv cu (sI xs i 1) (sI xs i 2) _ hq) (cwV 2 hts gL_law_X6_lies rfl rfl rfl (by decide +kernel) ⟨Nat.le_of_ble_eq_true rfl, Nat.le_of_ble_eq_true rfl⟩) ⟨xk_blind, xB_recv hK hB0, xk_pre hB0 hK hN (newA hS.1 hPm)⟩ rfl rfl hl.1 rfl (lv_room (Nat.le_of_ble_eq_true rfl)) dL_law_1039 ⟨(show u + 0 ≤ 600000 by omega), (show v + 0 ≤ 7302250 by omega)⟩) hS (fun q _ h => fA q h) fA (fun ra _ t9 H1 locs1 ht hvm hwA hB _ hk1 hS1 => ?_)
  refine W.cs (cells' := u) (slots' := v) rfl rfl ?_
  have hB1 := xB_th ht hB
  have hPm := keepA hPm hk1
  have hS := hS1
  refine lv_aload_n hx hb dL_law_1042 rfl (lv_at hl 2 rfl) ?_
  refine lv_aload_n hx hb dL_law_1043 rfl (lv_at hl 0 rfl) ?_
  refine lv_iload_n hx hb dL_law_1044 rfl (lv_at hl 3 rfl) ?_
  refine lv_iconst (v := (1 : Int32)) hx hb dL_law_1045 (by decide) ?_
  refine lv_iadd hx hb dL_law_1046 ?_
  refine va_sld hx hb hXs hbl hbA hS (s_in hi hL 1 rfl (by omega)) dL_law_1047 ?_
  refine lv_aload_n hx hb dL_law_1048 rfl (lv_at hl 0 rfl) ?_
  refine lv_iload_n hx hb dL_law_1049 rfl (lv_at hl 3 rfl) ?_
  refine lv_iconst (v := (2 : Int32)) hx hb dL_law_1050 (by decide) ?_
  refine lv_iadd hx hb dL_law_1051 ?_
  refine va_sld hx hb hXs hbl hbA hS (s_in hi hL 2 rfl (by omega)) dL_law_1052 ?_
  have hq2 : PX7_lies r (sI xs i 1) (sI xs i 2) (fun (r9 : Int64) => r9 = (zLies Z.1 (sI xs i 1) (sI xs i 2))) := mLies hMK.1 hIZ.1 (post := (fun (r9 : Int64) => r9 = (zLies Z.1 (sI xs i 1) (sI xs i 2)))) (rfl)
  refine va_calll (va_runV (As := [.int (sI xs i 1), .int (sI xs i 2)]) (rest := [.long ra]) ⟨hx, hb, hml, hown, hts⟩ (qX7_lies l dC dI am ci (Ax 7 am) (Ax_D g3) r (sI xs i 1) (sI xs i 2) _ hq2) (cwV 2 hts gL_law_X7_lies rfl rfl rfl (by decide +kernel) ⟨Nat.le_of_ble_eq_true rfl, Nat.le_of_ble_eq_true rfl⟩) ⟨xr_blind, xr_recv (r := (RX7, TX7, 9)) hK hPm 0 (by decide) me_M rfl, xr_pre hPm hK⟩ rfl rfl hl.1 rfl (lv_room (Nat.le_of_ble_eq_true rfl)) dL_law_1053 ⟨(show u + 0 ≤ 600000 by omega), (show v + 0 ≤ 7302250 by omega)⟩) hS (fun q _ h => fM q h) fM (fun rb _ t9 H2 locs2 ht hvm hwB hB _ hk2 hS2 => ?_)
  refine W.cs (cells' := u) (slots' := v) rfl rfl ?_
  have hP2 := x_th ht hB
  have hB1 := xB_keep hB1 hk2
  refine W.widen (k := u + 18) (n := v + 3323) (by omega) (by omega) ?_
  exact xr_if_lcmp_eq (tgt := 1216) hx hb dL_law_1056 dL_law_1057 (by decide) (fun _ => kk H2 locs2 ⟨Z, st, ln, sv, kv, cu, r, hKI, hMK, hIZ, hB1, hP2, hS2⟩) (fun q => absurd ((hwA).trans (hwB).symm) q)
