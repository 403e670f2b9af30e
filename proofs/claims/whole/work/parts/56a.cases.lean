set_option maxHeartbeats 4000000 in
set_option maxRecDepth 100000 in
theorem lc_once {p : Program} {e : Env} {s : State} {m : MethodId} {below : List Frame} {meth : Method} {c : Code} (l : Launch) {b L : Nat} {xs : Nat → Int32} (hL : L ≤ 3584) (C0 : lw_At p s m meth c b L xs) {dC : Nat → ClassId} {dI : Nat → Nat → Nat} {a0 : Nat} {ci : Nat → ClassId} {am : Nat → Nat} (G0 : LC s dC dI ci am) {i u v : Nat} (hu : u + 18 ≤ 600000) (hv : v + 3323 ≤ 7302250) (hi : i + 7 ≤ L) {H : Heap} {locs : List Loc} {ls : Array Slot} (hX : LX s dC dI a0 ci am H locs) (hl : lv_has ls 4 [(0, .ref b), (1, .ref a0), (2, .ref (am 0)), (3, .int (nI i))]) (kk : ∀ (H : Heap) (locs : List Loc), LX s dC dI a0 ci am H locs → W p l e room_1 s m #[Value.ref b] below meth c H locs (u + 18) (v + 3323) (lw_Z below #[Value.ref b] s) (F0 m 1216 ls [])) : W p l e room_1 s m #[Value.ref b] below meth c H locs u v (lw_Z below #[Value.ref b] s) (F0 m 144 ls []) := by
  obtain ⟨hx, hb, hr, hml, hown, hts0, hXs, hbl, hlocks, hgv⟩ := id C0
  have hts : ∀ w ∈ wsL_law, w.before #[Value.ref b] s = true := fun w h => hts0 w (wsL_law_in w h)
  have hown : s.vm.findClass RL = some m.cls := hown
  obtain ⟨hK, hN, g3, g4⟩ := id G0
  obtain ⟨Z, st, ln, sv, kv, cu, r, hKI, hMK, hIZ, hB0, hPm, hS⟩ := hX
  have hbA : ¬ (fun q : Nat => s.heap.size ≤ q) b := Nat.not_le.mpr hbl
  have fA : ∀ q, Ac s am q → (fun q : Nat => s.heap.size ≤ q) q := fun q h => h.1
  have fM : ∀ q, Ax 7 am q → (fun q : Nat => s.heap.size ≤ q) q := fun q ⟨k, h1, h2⟩ => by rw [h2]; exact g4 k h1
  refine lv_aload_n hx hb dL_law_144 rfl (lv_at hl 1 rfl) ?_
  refine lv_aload_n hx hb dL_law_145 rfl (lv_at hl 0 rfl) ?_
  refine lv_iload_n hx hb dL_law_146 rfl (lv_at hl 3 rfl) ?_
  refine lv_iconst (v := (1 : Int32)) hx hb dL_law_147 (by decide) ?_
  refine lv_iadd hx hb dL_law_148 ?_
  refine va_sld hx hb hXs hbl hbA hS (s_in hi hL 1 rfl (by omega)) dL_law_149 ?_
  refine lv_i2l hx hb dL_law_150 rfl ?_
  refine lv_bipush (v := (32 : Int32)) hx hb dL_law_151 (by decide) ?_
  refine lv_lshl hx hb dL_law_153 rfl ?_
  refine lv_aload_n hx hb dL_law_154 rfl (lv_at hl 0 rfl) ?_
  refine lv_iload_n hx hb dL_law_155 rfl (lv_at hl 3 rfl) ?_
  refine lv_iconst (v := (2 : Int32)) hx hb dL_law_156 (by decide) ?_
  refine lv_iadd hx hb dL_law_157 ?_
  refine va_sld hx hb hXs hbl hbA hS (s_in hi hL 2 rfl (by omega)) dL_law_158 ?_
  refine lv_i2l hx hb dL_law_159 rfl ?_
  refine lv_ldc2 (v := (4294967295 : Int64)) hx hb hown (hts _ wL_k13) dL_law_160 ?_
  refine lv_land hx hb dL_law_163 ?_
  refine lv_lor hx hb dL_law_164 ?_
  refine lv_aload_n hx hb dL_law_165 rfl (lv_at hl 0 rfl) ?_
  refine lv_iload_n hx hb dL_law_166 rfl (lv_at hl 3 rfl) ?_
  refine lv_iconst (v := (3 : Int32)) hx hb dL_law_167 (by decide) ?_
  refine lv_iadd hx hb dL_law_168 ?_
  refine va_sld hx hb hXs hbl hbA hS (s_in hi hL 3 rfl (by omega)) dL_law_169 ?_
  have hq : PX6_once st kv cu (sJ xs i 1 2) (sI xs i 3) (fun (r9 : Int64) (st' : Nat → StV) (kv' : KvV) => r9 = (zOnce Z (sJ xs i 1 2) (sI xs i 3)).1 ∧ KI st' kv' cu (zOnce Z (sJ xs i 1 2) (sI xs i 3)).2) := cOnce hKI (post := (fun (r9 : Int64) (st' : Nat → StV) (kv' : KvV) => r9 = (zOnce Z (sJ xs i 1 2) (sI xs i 3)).1 ∧ KI st' kv' cu (zOnce Z (sJ xs i 1 2) (sI xs i 3)).2)) (fun st' kv' hk => ⟨rfl, hk⟩)
  refine va_calll (va_runV (As := [.long (sJ xs i 1 2), .int (sI xs i 3)]) (rest := []) ⟨hx, hb, hml, hown, hts⟩ (qX6_once l dC dI ci (Ac s am) a0 st ln sv kv cu (sJ xs i 1 2) (sI xs i 3) _ hq) (cwV 2 hts gL_law_X6_once rfl rfl rfl (by decide +kernel) ⟨Nat.le_of_ble_eq_true rfl, Nat.le_of_ble_eq_true rfl⟩) ⟨xk_blind, xB_recv hK hB0, xk_pre hB0 hK hN (newA hS.1 hPm)⟩ rfl rfl hl.1 rfl (lv_room (Nat.le_of_ble_eq_true rfl)) dL_law_170 ⟨(show u + 18 ≤ 600000 by omega), (show v + 3323 ≤ 7302250 by omega)⟩) hS (fun q _ h => fA q h) fA (fun ra u9 t9 H1 locs1 ht hvm hwA hB _ hk1 hS1 => ?_)
  refine W.cs (cells' := u + 18) (slots' := v + 3323) rfl rfl ?_
  obtain ⟨st1, kv1⟩ := u9
  have hB1 := xB_th ht hB
  have hPm := keepA hPm hk1
  have hS := hS1
  refine lv_aload_n hx hb dL_law_173 rfl (lv_at hl 2 rfl) ?_
  refine lv_aload_n hx hb dL_law_174 rfl (lv_at hl 0 rfl) ?_
  refine lv_iload_n hx hb dL_law_175 rfl (lv_at hl 3 rfl) ?_
  refine lv_iconst (v := (1 : Int32)) hx hb dL_law_176 (by decide) ?_
  refine lv_iadd hx hb dL_law_177 ?_
  refine va_sld hx hb hXs hbl hbA hS (s_in hi hL 1 rfl (by omega)) dL_law_178 ?_
  refine lv_i2l hx hb dL_law_179 rfl ?_
  refine lv_bipush (v := (32 : Int32)) hx hb dL_law_180 (by decide) ?_
  refine lv_lshl hx hb dL_law_182 rfl ?_
  refine lv_aload_n hx hb dL_law_183 rfl (lv_at hl 0 rfl) ?_
  refine lv_iload_n hx hb dL_law_184 rfl (lv_at hl 3 rfl) ?_
  refine lv_iconst (v := (2 : Int32)) hx hb dL_law_185 (by decide) ?_
  refine lv_iadd hx hb dL_law_186 ?_
  refine va_sld hx hb hXs hbl hbA hS (s_in hi hL 2 rfl (by omega)) dL_law_187 ?_
  refine lv_i2l hx hb dL_law_188 rfl ?_
  refine lv_ldc2 (v := (4294967295 : Int64)) hx hb hown (hts _ wL_k13) dL_law_189 ?_
  refine lv_land hx hb dL_law_192 ?_
  refine lv_lor hx hb dL_law_193 ?_
  refine lv_aload_n hx hb dL_law_194 rfl (lv_at hl 0 rfl) ?_
  refine lv_iload_n hx hb dL_law_195 rfl (lv_at hl 3 rfl) ?_
  refine lv_iconst (v := (3 : Int32)) hx hb dL_law_196 (by decide) ?_
  refine lv_iadd hx hb dL_law_197 ?_
  refine va_sld hx hb hXs hbl hbA hS (s_in hi hL 3 rfl (by omega)) dL_law_198 ?_
  have hq2 : PX7_once r (sJ xs i 1 2) (sI xs i 3) (fun (r9 : Int64) (r' : MmV) => r9 = (zOnce Z (sJ xs i 1 2) (sI xs i 3)).1 ∧ MK r' (zOnce Z (sJ xs i 1 2) (sI xs i 3)).2) := mOnce hMK (post := (fun (r9 : Int64) (r' : MmV) => r9 = (zOnce Z (sJ xs i 1 2) (sI xs i 3)).1 ∧ MK r' (zOnce Z (sJ xs i 1 2) (sI xs i 3)).2)) (fun r' hk => ⟨rfl, hk⟩)
  refine va_calll (va_runV (As := [.long (sJ xs i 1 2), .int (sI xs i 3)]) (rest := [.long ra]) ⟨hx, hb, hml, hown, hts⟩ (qX7_once l dC dI am ci (Ax 7 am) (Ax_D g3) r (sJ xs i 1 2) (sI xs i 3) _ hq2) (cwV 2 hts gL_law_X7_once rfl rfl rfl (by decide +kernel) ⟨Nat.le_of_ble_eq_true rfl, Nat.le_of_ble_eq_true rfl⟩) ⟨xr_blind, xr_recv (r := (RX7, TX7, 9)) hK hPm 0 (by decide) me_M rfl, xr_pre hPm hK⟩ rfl rfl hl.1 rfl (lv_room (Nat.le_of_ble_eq_true rfl)) dL_law_199 ⟨(show u + 18 + 0 ≤ 600000 by omega), (show v + 3323 + 0 ≤ 7302250 by omega)⟩) hS (fun q _ h => fM q h) fM (fun rb r1 t9 H2 locs2 ht hvm hwB hB _ hk2 hS2 => ?_)
  refine W.cs (cells' := u + 18) (slots' := v + 3323) rfl rfl ?_
  have hP2 := x_th ht hB
  have hB1 := xB_keep hB1 hk2
  exact xr_if_lcmp_eq (tgt := 1216) hx hb dL_law_202 dL_law_203 (by decide) (fun _ => kk H2 locs2 ⟨(zOnce Z (sJ xs i 1 2) (sI xs i 3)).2, st1, ln, sv, kv1, cu, r1, hwA.2, hwB.2, zOnce_I hIZ (sJ xs i 1 2) (sI xs i 3), hB1, hP2, hS2⟩) (fun q => absurd ((hwA.1).trans (hwB.1).symm) q)
set_option maxHeartbeats 4000000 in
set_option maxRecDepth 100000 in
theorem lc_often {p : Program} {e : Env} {s : State} {m : MethodId} {below : List Frame} {meth : Method} {c : Code} (l : Launch) {b L : Nat} {xs : Nat → Int32} (hL : L ≤ 3584) (C0 : lw_At p s m meth c b L xs) {dC : Nat → ClassId} {dI : Nat → Nat → Nat} {a0 : Nat} {ci : Nat → ClassId} {am : Nat → Nat} (G0 : LC s dC dI ci am) {i u v : Nat} (hu : u + 18 ≤ 600000) (hv : v + 3323 ≤ 7302250) (hi : i + 7 ≤ L) {H : Heap} {locs : List Loc} {ls : Array Slot} (hX : LX s dC dI a0 ci am H locs) (hl : lv_has ls 4 [(0, .ref b), (1, .ref a0), (2, .ref (am 0)), (3, .int (nI i))]) (kk : ∀ (H : Heap) (locs : List Loc), LX s dC dI a0 ci am H locs → W p l e room_1 s m #[Value.ref b] below meth c H locs (u + 18) (v + 3323) (lw_Z below #[Value.ref b] s) (F0 m 1216 ls [])) : W p l e room_1 s m #[Value.ref b] below meth c H locs u v (lw_Z below #[Value.ref b] s) (F0 m 208 ls []) := by
  obtain ⟨hx, hb, hr, hml, hown, hts0, hXs, hbl, hlocks, hgv⟩ := id C0
  have hts : ∀ w ∈ wsL_law, w.before #[Value.ref b] s = true := fun w h => hts0 w (wsL_law_in w h)
  have hown : s.vm.findClass RL = some m.cls := hown
  obtain ⟨hK, hN, g3, g4⟩ := id G0
  obtain ⟨Z, st, ln, sv, kv, cu, r, hKI, hMK, hIZ, hB0, hPm, hS⟩ := hX
  have hbA : ¬ (fun q : Nat => s.heap.size ≤ q) b := Nat.not_le.mpr hbl
  have fA : ∀ q, Ac s am q → (fun q : Nat => s.heap.size ≤ q) q := fun q h => h.1
  have fM : ∀ q, Ax 7 am q → (fun q : Nat => s.heap.size ≤ q) q := fun q ⟨k, h1, h2⟩ => by rw [h2]; exact g4 k h1
  refine lv_aload_n hx hb dL_law_208 rfl (lv_at hl 1 rfl) ?_
  refine lv_aload_n hx hb dL_law_209 rfl (lv_at hl 0 rfl) ?_
  refine lv_iload_n hx hb dL_law_210 rfl (lv_at hl 3 rfl) ?_
  refine lv_iconst (v := (1 : Int32)) hx hb dL_law_211 (by decide) ?_
  refine lv_iadd hx hb dL_law_212 ?_
  refine va_sld hx hb hXs hbl hbA hS (s_in hi hL 1 rfl (by omega)) dL_law_213 ?_
  refine lv_i2l hx hb dL_law_214 rfl ?_
  refine lv_bipush (v := (32 : Int32)) hx hb dL_law_215 (by decide) ?_
  refine lv_lshl hx hb dL_law_217 rfl ?_
  refine lv_aload_n hx hb dL_law_218 rfl (lv_at hl 0 rfl) ?_
  refine lv_iload_n hx hb dL_law_219 rfl (lv_at hl 3 rfl) ?_
  refine lv_iconst (v := (2 : Int32)) hx hb dL_law_220 (by decide) ?_
  refine lv_iadd hx hb dL_law_221 ?_
  refine va_sld hx hb hXs hbl hbA hS (s_in hi hL 2 rfl (by omega)) dL_law_222 ?_
  refine lv_i2l hx hb dL_law_223 rfl ?_
  refine lv_ldc2 (v := (4294967295 : Int64)) hx hb hown (hts _ wL_k13) dL_law_224 ?_
  refine lv_land hx hb dL_law_227 ?_
  refine lv_lor hx hb dL_law_228 ?_
  refine lv_aload_n hx hb dL_law_229 rfl (lv_at hl 0 rfl) ?_
  refine lv_iload_n hx hb dL_law_230 rfl (lv_at hl 3 rfl) ?_
  refine lv_iconst (v := (3 : Int32)) hx hb dL_law_231 (by decide) ?_
  refine lv_iadd hx hb dL_law_232 ?_
  refine va_sld hx hb hXs hbl hbA hS (s_in hi hL 3 rfl (by omega)) dL_law_233 ?_
  refine lv_i2l hx hb dL_law_234 rfl ?_
  refine lv_bipush (v := (32 : Int32)) hx hb dL_law_235 (by decide) ?_
  refine lv_lshl hx hb dL_law_237 rfl ?_
  refine lv_aload_n hx hb dL_law_238 rfl (lv_at hl 0 rfl) ?_
  refine lv_iload_n hx hb dL_law_239 rfl (lv_at hl 3 rfl) ?_
  refine lv_iconst (v := (4 : Int32)) hx hb dL_law_240 (by decide) ?_
  refine lv_iadd hx hb dL_law_241 ?_
  refine va_sld hx hb hXs hbl hbA hS (s_in hi hL 4 rfl (by omega)) dL_law_242 ?_
  refine lv_i2l hx hb dL_law_243 rfl ?_
  refine lv_ldc2 (v := (4294967295 : Int64)) hx hb hown (hts _ wL_k13) dL_law_244 ?_
  refine lv_land hx hb dL_law_247 ?_
  refine lv_lor hx hb dL_law_248 ?_
  refine lv_aload_n hx hb dL_law_249 rfl (lv_at hl 0 rfl) ?_
  refine lv_iload_n hx hb dL_law_250 rfl (lv_at hl 3 rfl) ?_
  refine lv_iconst (v := (5 : Int32)) hx hb dL_law_251 (by decide) ?_
  refine lv_iadd hx hb dL_law_252 ?_
  refine va_sld hx hb hXs hbl hbA hS (s_in hi hL 5 rfl (by omega)) dL_law_253 ?_
  refine lv_aload_n hx hb dL_law_254 rfl (lv_at hl 0 rfl) ?_
  refine lv_iload_n hx hb dL_law_255 rfl (lv_at hl 3 rfl) ?_
  refine lv_bipush (v := (6 : Int32)) hx hb dL_law_256 (by decide) ?_
  refine lv_iadd hx hb dL_law_258 ?_
  refine va_sld hx hb hXs hbl hbA hS (s_in hi hL 6 rfl (by omega)) dL_law_259 ?_
  have hq : PX6_often st kv cu (sJ xs i 1 2) (sJ xs i 3 4) (sI xs i 5) (sI xs i 6) (fun (r9 : Int64) (st' : Nat → StV) (kv' : KvV) => r9 = (zRep Z 1 (sJ xs i 1 2) (sJ xs i 3 4) (sI xs i 5) (sI xs i 6)).1 ∧ KI st' kv' cu (zRep Z 1 (sJ xs i 1 2) (sJ xs i 3 4) (sI xs i 5) (sI xs i 6)).2) := cRep hKI (kd := 1) (by decide) (post := (fun (r9 : Int64) (st' : Nat → StV) (kv' : KvV) => r9 = (zRep Z 1 (sJ xs i 1 2) (sJ xs i 3 4) (sI xs i 5) (sI xs i 6)).1 ∧ KI st' kv' cu (zRep Z 1 (sJ xs i 1 2) (sJ xs i 3 4) (sI xs i 5) (sI xs i 6)).2)) (fun st' kv' hk => ⟨rfl, hk⟩)
  refine va_calll (va_runV (As := [.long (sJ xs i 1 2), .long (sJ xs i 3 4), .int (sI xs i 5), .int (sI xs i 6)]) (rest := []) ⟨hx, hb, hml, hown, hts⟩ (qX6_often l dC dI ci (Ac s am) a0 st ln sv kv cu (sJ xs i 1 2) (sJ xs i 3 4) (sI xs i 5) (sI xs i 6) _ hq) (cwV 4 hts gL_law_X6_often rfl rfl rfl (by decide +kernel) ⟨Nat.le_of_ble_eq_true rfl, Nat.le_of_ble_eq_true rfl⟩) ⟨xk_blind, xB_recv hK hB0, xk_pre hB0 hK hN (newA hS.1 hPm)⟩ rfl rfl hl.1 rfl (lv_room (Nat.le_of_ble_eq_true rfl)) dL_law_260 ⟨(show u + 18 ≤ 600000 by omega), (show v + 3323 ≤ 7302250 by omega)⟩) hS (fun q _ h => fA q h) fA (fun ra u9 t9 H1 locs1 ht hvm hwA hB _ hk1 hS1 => ?_)
  refine W.cs (cells' := u + 18) (slots' := v + 3323) rfl rfl ?_
  obtain ⟨st1, kv1⟩ := u9
  have hB1 := xB_th ht hB
  have hPm := keepA hPm hk1
  have hS := hS1
  refine lv_aload_n hx hb dL_law_263 rfl (lv_at hl 2 rfl) ?_
  refine lv_aload_n hx hb dL_law_264 rfl (lv_at hl 0 rfl) ?_
  refine lv_iload_n hx hb dL_law_265 rfl (lv_at hl 3 rfl) ?_
  refine lv_iconst (v := (1 : Int32)) hx hb dL_law_266 (by decide) ?_
  refine lv_iadd hx hb dL_law_267 ?_
  refine va_sld hx hb hXs hbl hbA hS (s_in hi hL 1 rfl (by omega)) dL_law_268 ?_
  refine lv_i2l hx hb dL_law_269 rfl ?_
  refine lv_bipush (v := (32 : Int32)) hx hb dL_law_270 (by decide) ?_
  refine lv_lshl hx hb dL_law_272 rfl ?_
  refine lv_aload_n hx hb dL_law_273 rfl (lv_at hl 0 rfl) ?_
  refine lv_iload_n hx hb dL_law_274 rfl (lv_at hl 3 rfl) ?_
  refine lv_iconst (v := (2 : Int32)) hx hb dL_law_275 (by decide) ?_
  refine lv_iadd hx hb dL_law_276 ?_
  refine va_sld hx hb hXs hbl hbA hS (s_in hi hL 2 rfl (by omega)) dL_law_277 ?_
  refine lv_i2l hx hb dL_law_278 rfl ?_
  refine lv_ldc2 (v := (4294967295 : Int64)) hx hb hown (hts _ wL_k13) dL_law_279 ?_
  refine lv_land hx hb dL_law_282 ?_
  refine lv_lor hx hb dL_law_283 ?_
  refine lv_aload_n hx hb dL_law_284 rfl (lv_at hl 0 rfl) ?_
  refine lv_iload_n hx hb dL_law_285 rfl (lv_at hl 3 rfl) ?_
  refine lv_iconst (v := (3 : Int32)) hx hb dL_law_286 (by decide) ?_
  refine lv_iadd hx hb dL_law_287 ?_
  refine va_sld hx hb hXs hbl hbA hS (s_in hi hL 3 rfl (by omega)) dL_law_288 ?_
  refine lv_i2l hx hb dL_law_289 rfl ?_
  refine lv_bipush (v := (32 : Int32)) hx hb dL_law_290 (by decide) ?_
  refine lv_lshl hx hb dL_law_292 rfl ?_
  refine lv_aload_n hx hb dL_law_293 rfl (lv_at hl 0 rfl) ?_
  refine lv_iload_n hx hb dL_law_294 rfl (lv_at hl 3 rfl) ?_
  refine lv_iconst (v := (4 : Int32)) hx hb dL_law_295 (by decide) ?_
  refine lv_iadd hx hb dL_law_296 ?_
  refine va_sld hx hb hXs hbl hbA hS (s_in hi hL 4 rfl (by omega)) dL_law_297 ?_
  refine lv_i2l hx hb dL_law_298 rfl ?_
  refine lv_ldc2 (v := (4294967295 : Int64)) hx hb hown (hts _ wL_k13) dL_law_299 ?_
  refine lv_land hx hb dL_law_302 ?_
  refine lv_lor hx hb dL_law_303 ?_
  refine lv_aload_n hx hb dL_law_304 rfl (lv_at hl 0 rfl) ?_
  refine lv_iload_n hx hb dL_law_305 rfl (lv_at hl 3 rfl) ?_
  refine lv_iconst (v := (5 : Int32)) hx hb dL_law_306 (by decide) ?_
  refine lv_iadd hx hb dL_law_307 ?_
  refine va_sld hx hb hXs hbl hbA hS (s_in hi hL 5 rfl (by omega)) dL_law_308 ?_
  refine lv_aload_n hx hb dL_law_309 rfl (lv_at hl 0 rfl) ?_
  refine lv_iload_n hx hb dL_law_310 rfl (lv_at hl 3 rfl) ?_
  refine lv_bipush (v := (6 : Int32)) hx hb dL_law_311 (by decide) ?_
  refine lv_iadd hx hb dL_law_313 ?_
  refine va_sld hx hb hXs hbl hbA hS (s_in hi hL 6 rfl (by omega)) dL_law_314 ?_
  have hq2 : PX7_often r (sJ xs i 1 2) (sJ xs i 3 4) (sI xs i 5) (sI xs i 6) (fun (r9 : Int64) (r' : MmV) => r9 = (zRep Z 1 (sJ xs i 1 2) (sJ xs i 3 4) (sI xs i 5) (sI xs i 6)).1 ∧ MK r' (zRep Z 1 (sJ xs i 1 2) (sJ xs i 3 4) (sI xs i 5) (sI xs i 6)).2) := mRep hMK (kd := 1) (by decide) (by decide) (post := (fun (r9 : Int64) (r' : MmV) => r9 = (zRep Z 1 (sJ xs i 1 2) (sJ xs i 3 4) (sI xs i 5) (sI xs i 6)).1 ∧ MK r' (zRep Z 1 (sJ xs i 1 2) (sJ xs i 3 4) (sI xs i 5) (sI xs i 6)).2)) (fun r' hk => ⟨rfl, hk⟩)
  refine va_calll (va_runV (As := [.long (sJ xs i 1 2), .long (sJ xs i 3 4), .int (sI xs i 5), .int (sI xs i 6)]) (rest := [.long ra]) ⟨hx, hb, hml, hown, hts⟩ (qX7_often l dC dI am ci (Ax 7 am) (Ax_D g3) r (sJ xs i 1 2) (sJ xs i 3 4) (sI xs i 5) (sI xs i 6) _ hq2) (cwV 4 hts gL_law_X7_often rfl rfl rfl (by decide +kernel) ⟨Nat.le_of_ble_eq_true rfl, Nat.le_of_ble_eq_true rfl⟩) ⟨xr_blind, xr_recv (r := (RX7, TX7, 9)) hK hPm 0 (by decide) me_M rfl, xr_pre hPm hK⟩ rfl rfl hl.1 rfl (lv_room (Nat.le_of_ble_eq_true rfl)) dL_law_315 ⟨(show u + 18 + 0 ≤ 600000 by omega), (show v + 3323 + 0 ≤ 7302250 by omega)⟩) hS (fun q _ h => fM q h) fM (fun rb r1 t9 H2 locs2 ht hvm hwB hB _ hk2 hS2 => ?_)
  refine W.cs (cells' := u + 18) (slots' := v + 3323) rfl rfl ?_
  have hP2 := x_th ht hB
  have hB1 := xB_keep hB1 hk2
  exact xr_if_lcmp_eq (tgt := 1216) hx hb dL_law_318 dL_law_319 (by decide) (fun _ => kk H2 locs2 ⟨(zRep Z 1 (sJ xs i 1 2) (sJ xs i 3 4) (sI xs i 5) (sI xs i 6)).2, st1, ln, sv, kv1, cu, r1, hwA.2, hwB.2, zRep_I hIZ (kd := 1) (Or.inl (by decide)) (sJ xs i 1 2) (sJ xs i 3 4) (sI xs i 5) (sI xs i 6), hB1, hP2, hS2⟩) (fun q => absurd ((hwA.1).trans (hwB.1).symm) q)
set_option maxHeartbeats 4000000 in
set_option maxRecDepth 100000 in
theorem lc_loose {p : Program} {e : Env} {s : State} {m : MethodId} {below : List Frame} {meth : Method} {c : Code} (l : Launch) {b L : Nat} {xs : Nat → Int32} (hL : L ≤ 3584) (C0 : lw_At p s m meth c b L xs) {dC : Nat → ClassId} {dI : Nat → Nat → Nat} {a0 : Nat} {ci : Nat → ClassId} {am : Nat → Nat} (G0 : LC s dC dI ci am) {i u v : Nat} (hu : u + 18 ≤ 600000) (hv : v + 3323 ≤ 7302250) (hi : i + 7 ≤ L) {H : Heap} {locs : List Loc} {ls : Array Slot} (hX : LX s dC dI a0 ci am H locs) (hl : lv_has ls 4 [(0, .ref b), (1, .ref a0), (2, .ref (am 0)), (3, .int (nI i))]) (kk : ∀ (H : Heap) (locs : List Loc), LX s dC dI a0 ci am H locs → W p l e room_1 s m #[Value.ref b] below meth c H locs (u + 18) (v + 3323) (lw_Z below #[Value.ref b] s) (F0 m 1216 ls [])) : W p l e room_1 s m #[Value.ref b] below meth c H locs u v (lw_Z below #[Value.ref b] s) (F0 m 324 ls []) := by
  obtain ⟨hx, hb, hr, hml, hown, hts0, hXs, hbl, hlocks, hgv⟩ := id C0
  have hts : ∀ w ∈ wsL_law, w.before #[Value.ref b] s = true := fun w h => hts0 w (wsL_law_in w h)
  have hown : s.vm.findClass RL = some m.cls := hown
  obtain ⟨hK, hN, g3, g4⟩ := id G0
  obtain ⟨Z, st, ln, sv, kv, cu, r, hKI, hMK, hIZ, hB0, hPm, hS⟩ := hX
  have hbA : ¬ (fun q : Nat => s.heap.size ≤ q) b := Nat.not_le.mpr hbl
  have fA : ∀ q, Ac s am q → (fun q : Nat => s.heap.size ≤ q) q := fun q h => h.1
  have fM : ∀ q, Ax 7 am q → (fun q : Nat => s.heap.size ≤ q) q := fun q ⟨k, h1, h2⟩ => by rw [h2]; exact g4 k h1
  refine lv_aload_n hx hb dL_law_324 rfl (lv_at hl 1 rfl) ?_
  refine lv_aload_n hx hb dL_law_325 rfl (lv_at hl 0 rfl) ?_
  refine lv_iload_n hx hb dL_law_326 rfl (lv_at hl 3 rfl) ?_
  refine lv_iconst (v := (1 : Int32)) hx hb dL_law_327 (by decide) ?_
  refine lv_iadd hx hb dL_law_328 ?_
  refine va_sld hx hb hXs hbl hbA hS (s_in hi hL 1 rfl (by omega)) dL_law_329 ?_
  refine lv_i2l hx hb dL_law_330 rfl ?_
  refine lv_bipush (v := (32 : Int32)) hx hb dL_law_331 (by decide) ?_
  refine lv_lshl hx hb dL_law_333 rfl ?_
  refine lv_aload_n hx hb dL_law_334 rfl (lv_at hl 0 rfl) ?_
  refine lv_iload_n hx hb dL_law_335 rfl (lv_at hl 3 rfl) ?_
  refine lv_iconst (v := (2 : Int32)) hx hb dL_law_336 (by decide) ?_
  refine lv_iadd hx hb dL_law_337 ?_
  refine va_sld hx hb hXs hbl hbA hS (s_in hi hL 2 rfl (by omega)) dL_law_338 ?_
  refine lv_i2l hx hb dL_law_339 rfl ?_
  refine lv_ldc2 (v := (4294967295 : Int64)) hx hb hown (hts _ wL_k13) dL_law_340 ?_
  refine lv_land hx hb dL_law_343 ?_
  refine lv_lor hx hb dL_law_344 ?_
  refine lv_aload_n hx hb dL_law_345 rfl (lv_at hl 0 rfl) ?_
  refine lv_iload_n hx hb dL_law_346 rfl (lv_at hl 3 rfl) ?_
  refine lv_iconst (v := (3 : Int32)) hx hb dL_law_347 (by decide) ?_
  refine lv_iadd hx hb dL_law_348 ?_
  refine va_sld hx hb hXs hbl hbA hS (s_in hi hL 3 rfl (by omega)) dL_law_349 ?_
  refine lv_i2l hx hb dL_law_350 rfl ?_
  refine lv_bipush (v := (32 : Int32)) hx hb dL_law_351 (by decide) ?_
  refine lv_lshl hx hb dL_law_353 rfl ?_
  refine lv_aload_n hx hb dL_law_354 rfl (lv_at hl 0 rfl) ?_
  refine lv_iload_n hx hb dL_law_355 rfl (lv_at hl 3 rfl) ?_
  refine lv_iconst (v := (4 : Int32)) hx hb dL_law_356 (by decide) ?_
  refine lv_iadd hx hb dL_law_357 ?_
  refine va_sld hx hb hXs hbl hbA hS (s_in hi hL 4 rfl (by omega)) dL_law_358 ?_
  refine lv_i2l hx hb dL_law_359 rfl ?_
  refine lv_ldc2 (v := (4294967295 : Int64)) hx hb hown (hts _ wL_k13) dL_law_360 ?_
  refine lv_land hx hb dL_law_363 ?_
  refine lv_lor hx hb dL_law_364 ?_
  refine lv_aload_n hx hb dL_law_365 rfl (lv_at hl 0 rfl) ?_
  refine lv_iload_n hx hb dL_law_366 rfl (lv_at hl 3 rfl) ?_
  refine lv_iconst (v := (5 : Int32)) hx hb dL_law_367 (by decide) ?_
  refine lv_iadd hx hb dL_law_368 ?_
  refine va_sld hx hb hXs hbl hbA hS (s_in hi hL 5 rfl (by omega)) dL_law_369 ?_
  have hq : PX6_loose st kv cu (sJ xs i 1 2) (sJ xs i 3 4) (sI xs i 5) (fun (r9 : Int64) (st' : Nat → StV) (kv' : KvV) => r9 = (zLoose Z (sJ xs i 1 2) (sJ xs i 3 4) (sI xs i 5)).1 ∧ KI st' kv' cu (zLoose Z (sJ xs i 1 2) (sJ xs i 3 4) (sI xs i 5)).2) := cLoose hKI (post := (fun (r9 : Int64) (st' : Nat → StV) (kv' : KvV) => r9 = (zLoose Z (sJ xs i 1 2) (sJ xs i 3 4) (sI xs i 5)).1 ∧ KI st' kv' cu (zLoose Z (sJ xs i 1 2) (sJ xs i 3 4) (sI xs i 5)).2)) (fun st' kv' hk => ⟨rfl, hk⟩)
  refine va_calll (va_runV (As := [.long (sJ xs i 1 2), .long (sJ xs i 3 4), .int (sI xs i 5)]) (rest := []) ⟨hx, hb, hml, hown, hts⟩ (qX6_loose l dC dI ci (Ac s am) a0 st ln sv kv cu (sJ xs i 1 2) (sJ xs i 3 4) (sI xs i 5) _ hq) (cwV 3 hts gL_law_X6_loose rfl rfl rfl (by decide +kernel) ⟨Nat.le_of_ble_eq_true rfl, Nat.le_of_ble_eq_true rfl⟩) ⟨xk_blind, xB_recv hK hB0, xk_pre hB0 hK hN (newA hS.1 hPm)⟩ rfl rfl hl.1 rfl (lv_room (Nat.le_of_ble_eq_true rfl)) dL_law_370 ⟨(show u + 18 ≤ 600000 by omega), (show v + 3323 ≤ 7302250 by omega)⟩) hS (fun q _ h => fA q h) fA (fun ra u9 t9 H1 locs1 ht hvm hwA hB _ hk1 hS1 => ?_)
  refine W.cs (cells' := u + 18) (slots' := v + 3323) rfl rfl ?_
  obtain ⟨st1, kv1⟩ := u9
  have hB1 := xB_th ht hB
  have hPm := keepA hPm hk1
  have hS := hS1
  refine lv_aload_n hx hb dL_law_373 rfl (lv_at hl 2 rfl) ?_
  refine lv_aload_n hx hb dL_law_374 rfl (lv_at hl 0 rfl) ?_
  refine lv_iload_n hx hb dL_law_375 rfl (lv_at hl 3 rfl) ?_
  refine lv_iconst (v := (1 : Int32)) hx hb dL_law_376 (by decide) ?_
  refine lv_iadd hx hb dL_law_377 ?_
  refine va_sld hx hb hXs hbl hbA hS (s_in hi hL 1 rfl (by omega)) dL_law_378 ?_
  refine lv_i2l hx hb dL_law_379 rfl ?_
  refine lv_bipush (v := (32 : Int32)) hx hb dL_law_380 (by decide) ?_
  refine lv_lshl hx hb dL_law_382 rfl ?_
  refine lv_aload_n hx hb dL_law_383 rfl (lv_at hl 0 rfl) ?_
  refine lv_iload_n hx hb dL_law_384 rfl (lv_at hl 3 rfl) ?_
  refine lv_iconst (v := (2 : Int32)) hx hb dL_law_385 (by decide) ?_
  refine lv_iadd hx hb dL_law_386 ?_
  refine va_sld hx hb hXs hbl hbA hS (s_in hi hL 2 rfl (by omega)) dL_law_387 ?_
  refine lv_i2l hx hb dL_law_388 rfl ?_
  refine lv_ldc2 (v := (4294967295 : Int64)) hx hb hown (hts _ wL_k13) dL_law_389 ?_
  refine lv_land hx hb dL_law_392 ?_
  refine lv_lor hx hb dL_law_393 ?_
  refine lv_aload_n hx hb dL_law_394 rfl (lv_at hl 0 rfl) ?_
  refine lv_iload_n hx hb dL_law_395 rfl (lv_at hl 3 rfl) ?_
  refine lv_iconst (v := (3 : Int32)) hx hb dL_law_396 (by decide) ?_
  refine lv_iadd hx hb dL_law_397 ?_
  refine va_sld hx hb hXs hbl hbA hS (s_in hi hL 3 rfl (by omega)) dL_law_398 ?_
  refine lv_i2l hx hb dL_law_399 rfl ?_
  refine lv_bipush (v := (32 : Int32)) hx hb dL_law_400 (by decide) ?_
  refine lv_lshl hx hb dL_law_402 rfl ?_
  refine lv_aload_n hx hb dL_law_403 rfl (lv_at hl 0 rfl) ?_
  refine lv_iload_n hx hb dL_law_404 rfl (lv_at hl 3 rfl) ?_
  refine lv_iconst (v := (4 : Int32)) hx hb dL_law_405 (by decide) ?_
  refine lv_iadd hx hb dL_law_406 ?_
  refine va_sld hx hb hXs hbl hbA hS (s_in hi hL 4 rfl (by omega)) dL_law_407 ?_
  refine lv_i2l hx hb dL_law_408 rfl ?_
  refine lv_ldc2 (v := (4294967295 : Int64)) hx hb hown (hts _ wL_k13) dL_law_409 ?_
  refine lv_land hx hb dL_law_412 ?_
  refine lv_lor hx hb dL_law_413 ?_
  refine lv_aload_n hx hb dL_law_414 rfl (lv_at hl 0 rfl) ?_
  refine lv_iload_n hx hb dL_law_415 rfl (lv_at hl 3 rfl) ?_
  refine lv_iconst (v := (5 : Int32)) hx hb dL_law_416 (by decide) ?_
  refine lv_iadd hx hb dL_law_417 ?_
  refine va_sld hx hb hXs hbl hbA hS (s_in hi hL 5 rfl (by omega)) dL_law_418 ?_
  have hq2 : PX7_loose r (sJ xs i 1 2) (sJ xs i 3 4) (sI xs i 5) (fun (r9 : Int64) (r' : MmV) => r9 = (zLoose Z (sJ xs i 1 2) (sJ xs i 3 4) (sI xs i 5)).1 ∧ MK r' (zLoose Z (sJ xs i 1 2) (sJ xs i 3 4) (sI xs i 5)).2) := mLoose hMK (post := (fun (r9 : Int64) (r' : MmV) => r9 = (zLoose Z (sJ xs i 1 2) (sJ xs i 3 4) (sI xs i 5)).1 ∧ MK r' (zLoose Z (sJ xs i 1 2) (sJ xs i 3 4) (sI xs i 5)).2)) (fun r' hk => ⟨rfl, hk⟩)
  refine va_calll (va_runV (As := [.long (sJ xs i 1 2), .long (sJ xs i 3 4), .int (sI xs i 5)]) (rest := [.long ra]) ⟨hx, hb, hml, hown, hts⟩ (qX7_loose l dC dI am ci (Ax 7 am) (Ax_D g3) r (sJ xs i 1 2) (sJ xs i 3 4) (sI xs i 5) _ hq2) (cwV 3 hts gL_law_X7_loose rfl rfl rfl (by decide +kernel) ⟨Nat.le_of_ble_eq_true rfl, Nat.le_of_ble_eq_true rfl⟩) ⟨xr_blind, xr_recv (r := (RX7, TX7, 9)) hK hPm 0 (by decide) me_M rfl, xr_pre hPm hK⟩ rfl rfl hl.1 rfl (lv_room (Nat.le_of_ble_eq_true rfl)) dL_law_419 ⟨(show u + 18 + 0 ≤ 600000 by omega), (show v + 3323 + 0 ≤ 7302250 by omega)⟩) hS (fun q _ h => fM q h) fM (fun rb r1 t9 H2 locs2 ht hvm hwB hB _ hk2 hS2 => ?_)
  refine W.cs (cells' := u + 18) (slots' := v + 3323) rfl rfl ?_
  have hP2 := x_th ht hB
  have hB1 := xB_keep hB1 hk2
  exact xr_if_lcmp_eq (tgt := 1216) hx hb dL_law_422 dL_law_423 (by decide) (fun _ => kk H2 locs2 ⟨(zLoose Z (sJ xs i 1 2) (sJ xs i 3 4) (sI xs i 5)).2, st1, ln, sv, kv1, cu, r1, hwA.2, hwB.2, zLoose_I hIZ (sJ xs i 1 2) (sJ xs i 3 4) (sI xs i 5), hB1, hP2, hS2⟩) (fun q => absurd ((hwA.1).trans (hwB.1).symm) q)
set_option maxHeartbeats 4000000 in
set_option maxRecDepth 100000 in
theorem lc_chained {p : Program} {e : Env} {s : State} {m : MethodId} {below : List Frame} {meth : Method} {c : Code} (l : Launch) {b L : Nat} {xs : Nat → Int32} (hL : L ≤ 3584) (C0 : lw_At p s m meth c b L xs) {dC : Nat → ClassId} {dI : Nat → Nat → Nat} {a0 : Nat} {ci : Nat → ClassId} {am : Nat → Nat} (G0 : LC s dC dI ci am) {i u v : Nat} (hu : u + 18 ≤ 600000) (hv : v + 3323 ≤ 7302250) (hi : i + 7 ≤ L) {H : Heap} {locs : List Loc} {ls : Array Slot} (hX : LX s dC dI a0 ci am H locs) (hl : lv_has ls 4 [(0, .ref b), (1, .ref a0), (2, .ref (am 0)), (3, .int (nI i))]) (kk : ∀ (H : Heap) (locs : List Loc), LX s dC dI a0 ci am H locs → W p l e room_1 s m #[Value.ref b] below meth c H locs (u + 18) (v + 3323) (lw_Z below #[Value.ref b] s) (F0 m 1216 ls [])) : W p l e room_1 s m #[Value.ref b] below meth c H locs u v (lw_Z below #[Value.ref b] s) (F0 m 428 ls []) := by
  obtain ⟨hx, hb, hr, hml, hown, hts0, hXs, hbl, hlocks, hgv⟩ := id C0
  have hts : ∀ w ∈ wsL_law, w.before #[Value.ref b] s = true := fun w h => hts0 w (wsL_law_in w h)
  have hown : s.vm.findClass RL = some m.cls := hown
  obtain ⟨hK, hN, g3, g4⟩ := id G0
  obtain ⟨Z, st, ln, sv, kv, cu, r, hKI, hMK, hIZ, hB0, hPm, hS⟩ := hX
  have hbA : ¬ (fun q : Nat => s.heap.size ≤ q) b := Nat.not_le.mpr hbl
  have fA : ∀ q, Ac s am q → (fun q : Nat => s.heap.size ≤ q) q := fun q h => h.1
  have fM : ∀ q, Ax 7 am q → (fun q : Nat => s.heap.size ≤ q) q := fun q ⟨k, h1, h2⟩ => by rw [h2]; exact g4 k h1
  refine lv_aload_n hx hb dL_law_428 rfl (lv_at hl 1 rfl) ?_
  refine lv_aload_n hx hb dL_law_429 rfl (lv_at hl 0 rfl) ?_
  refine lv_iload_n hx hb dL_law_430 rfl (lv_at hl 3 rfl) ?_
  refine lv_iconst (v := (1 : Int32)) hx hb dL_law_431 (by decide) ?_
  refine lv_iadd hx hb dL_law_432 ?_
  refine va_sld hx hb hXs hbl hbA hS (s_in hi hL 1 rfl (by omega)) dL_law_433 ?_
  refine lv_aload_n hx hb dL_law_434 rfl (lv_at hl 0 rfl) ?_
  refine lv_iload_n hx hb dL_law_435 rfl (lv_at hl 3 rfl) ?_
  refine lv_iconst (v := (2 : Int32)) hx hb dL_law_436 (by decide) ?_
  refine lv_iadd hx hb dL_law_437 ?_
  refine va_sld hx hb hXs hbl hbA hS (s_in hi hL 2 rfl (by omega)) dL_law_438 ?_
  refine lv_i2l hx hb dL_law_439 rfl ?_
  refine lv_bipush (v := (32 : Int32)) hx hb dL_law_440 (by decide) ?_
  refine lv_lshl hx hb dL_law_442 rfl ?_
  refine lv_aload_n hx hb dL_law_443 rfl (lv_at hl 0 rfl) ?_
  refine lv_iload_n hx hb dL_law_444 rfl (lv_at hl 3 rfl) ?_
  refine lv_iconst (v := (3 : Int32)) hx hb dL_law_445 (by decide) ?_
  refine lv_iadd hx hb dL_law_446 ?_
  refine va_sld hx hb hXs hbl hbA hS (s_in hi hL 3 rfl (by omega)) dL_law_447 ?_
  refine lv_i2l hx hb dL_law_448 rfl ?_
  refine lv_ldc2 (v := (4294967295 : Int64)) hx hb hown (hts _ wL_k13) dL_law_449 ?_
  refine lv_land hx hb dL_law_452 ?_
  refine lv_lor hx hb dL_law_453 ?_
  refine lv_aload_n hx hb dL_law_454 rfl (lv_at hl 0 rfl) ?_
  refine lv_iload_n hx hb dL_law_455 rfl (lv_at hl 3 rfl) ?_
  refine lv_iconst (v := (4 : Int32)) hx hb dL_law_456 (by decide) ?_
  refine lv_iadd hx hb dL_law_457 ?_
  refine va_sld hx hb hXs hbl hbA hS (s_in hi hL 4 rfl (by omega)) dL_law_458 ?_
  refine lv_i2l hx hb dL_law_459 rfl ?_
  refine lv_bipush (v := (32 : Int32)) hx hb dL_law_460 (by decide) ?_
  refine lv_lshl hx hb dL_law_462 rfl ?_
  refine lv_aload_n hx hb dL_law_463 rfl (lv_at hl 0 rfl) ?_
  refine lv_iload_n hx hb dL_law_464 rfl (lv_at hl 3 rfl) ?_
  refine lv_iconst (v := (5 : Int32)) hx hb dL_law_465 (by decide) ?_
  refine lv_iadd hx hb dL_law_466 ?_
  refine va_sld hx hb hXs hbl hbA hS (s_in hi hL 5 rfl (by omega)) dL_law_467 ?_
  refine lv_i2l hx hb dL_law_468 rfl ?_
  refine lv_ldc2 (v := (4294967295 : Int64)) hx hb hown (hts _ wL_k13) dL_law_469 ?_
  refine lv_land hx hb dL_law_472 ?_
  refine lv_lor hx hb dL_law_473 ?_
  refine lv_aload_n hx hb dL_law_474 rfl (lv_at hl 0 rfl) ?_
  refine lv_iload_n hx hb dL_law_475 rfl (lv_at hl 3 rfl) ?_
  refine lv_bipush (v := (6 : Int32)) hx hb dL_law_476 (by decide) ?_
  refine lv_iadd hx hb dL_law_478 ?_
  refine va_sld hx hb hXs hbl hbA hS (s_in hi hL 6 rfl (by omega)) dL_law_479 ?_
  have hq : PX6_chained st kv cu (sI xs i 1) (sJ xs i 2 3) (sJ xs i 4 5) (sI xs i 6) (fun (r9 : Int64) (st' : Nat → StV) (kv' : KvV) => r9 = (zCh Z (sI xs i 1) (sJ xs i 2 3) (sJ xs i 4 5) (sI xs i 6)).1 ∧ KI st' kv' cu (zCh Z (sI xs i 1) (sJ xs i 2 3) (sJ xs i 4 5) (sI xs i 6)).2) := cCh hKI (post := (fun (r9 : Int64) (st' : Nat → StV) (kv' : KvV) => r9 = (zCh Z (sI xs i 1) (sJ xs i 2 3) (sJ xs i 4 5) (sI xs i 6)).1 ∧ KI st' kv' cu (zCh Z (sI xs i 1) (sJ xs i 2 3) (sJ xs i 4 5) (sI xs i 6)).2)) (fun st' kv' hk => ⟨rfl, hk⟩)
  refine va_calll (va_runV (As := [.int (sI xs i 1), .long (sJ xs i 2 3), .long (sJ xs i 4 5), .int (sI xs i 6)]) (rest := []) ⟨hx, hb, hml, hown, hts⟩ (qX6_chained l dC dI ci (Ac s am) a0 st ln sv kv cu (sI xs i 1) (sJ xs i 2 3) (sJ xs i 4 5) (sI xs i 6) _ hq) (cwV 4 hts gL_law_X6_chained rfl rfl rfl (by decide +kernel) ⟨Nat.le_of_ble_eq_true rfl, Nat.le_of_ble_eq_true rfl⟩) ⟨xk_blind, xB_recv hK hB0, xk_pre hB0 hK hN (newA hS.1 hPm)⟩ rfl rfl hl.1 rfl (lv_room (Nat.le_of_ble_eq_true rfl)) dL_law_480 ⟨(show u + 18 ≤ 600000 by omega), (show v + 3323 ≤ 7302250 by omega)⟩) hS (fun q _ h => fA q h) fA (fun ra u9 t9 H1 locs1 ht hvm hwA hB _ hk1 hS1 => ?_)
  refine W.cs (cells' := u + 18) (slots' := v + 3323) rfl rfl ?_
  obtain ⟨st1, kv1⟩ := u9
  have hB1 := xB_th ht hB
  have hPm := keepA hPm hk1
  have hS := hS1
  refine lv_aload_n hx hb dL_law_483 rfl (lv_at hl 2 rfl) ?_
  refine lv_aload_n hx hb dL_law_484 rfl (lv_at hl 0 rfl) ?_
  refine lv_iload_n hx hb dL_law_485 rfl (lv_at hl 3 rfl) ?_
  refine lv_iconst (v := (1 : Int32)) hx hb dL_law_486 (by decide) ?_
  refine lv_iadd hx hb dL_law_487 ?_
  refine va_sld hx hb hXs hbl hbA hS (s_in hi hL 1 rfl (by omega)) dL_law_488 ?_
  refine lv_aload_n hx hb dL_law_489 rfl (lv_at hl 0 rfl) ?_
  refine lv_iload_n hx hb dL_law_490 rfl (lv_at hl 3 rfl) ?_
  refine lv_iconst (v := (2 : Int32)) hx hb dL_law_491 (by decide) ?_
  refine lv_iadd hx hb dL_law_492 ?_
  refine va_sld hx hb hXs hbl hbA hS (s_in hi hL 2 rfl (by omega)) dL_law_493 ?_
  refine lv_i2l hx hb dL_law_494 rfl ?_
  refine lv_bipush (v := (32 : Int32)) hx hb dL_law_495 (by decide) ?_
  refine lv_lshl hx hb dL_law_497 rfl ?_
  refine lv_aload_n hx hb dL_law_498 rfl (lv_at hl 0 rfl) ?_
  refine lv_iload_n hx hb dL_law_499 rfl (lv_at hl 3 rfl) ?_
  refine lv_iconst (v := (3 : Int32)) hx hb dL_law_500 (by decide) ?_
  refine lv_iadd hx hb dL_law_501 ?_
  refine va_sld hx hb hXs hbl hbA hS (s_in hi hL 3 rfl (by omega)) dL_law_502 ?_
  refine lv_i2l hx hb dL_law_503 rfl ?_
  refine lv_ldc2 (v := (4294967295 : Int64)) hx hb hown (hts _ wL_k13) dL_law_504 ?_
  refine lv_land hx hb dL_law_507 ?_
  refine lv_lor hx hb dL_law_508 ?_
  refine lv_aload_n hx hb dL_law_509 rfl (lv_at hl 0 rfl) ?_
  refine lv_iload_n hx hb dL_law_510 rfl (lv_at hl 3 rfl) ?_
  refine lv_iconst (v := (4 : Int32)) hx hb dL_law_511 (by decide) ?_
  refine lv_iadd hx hb dL_law_512 ?_
  refine va_sld hx hb hXs hbl hbA hS (s_in hi hL 4 rfl (by omega)) dL_law_513 ?_
  refine lv_i2l hx hb dL_law_514 rfl ?_
  refine lv_bipush (v := (32 : Int32)) hx hb dL_law_515 (by decide) ?_
  refine lv_lshl hx hb dL_law_517 rfl ?_
  refine lv_aload_n hx hb dL_law_518 rfl (lv_at hl 0 rfl) ?_
  refine lv_iload_n hx hb dL_law_519 rfl (lv_at hl 3 rfl) ?_
  refine lv_iconst (v := (5 : Int32)) hx hb dL_law_520 (by decide) ?_
  refine lv_iadd hx hb dL_law_521 ?_
  refine va_sld hx hb hXs hbl hbA hS (s_in hi hL 5 rfl (by omega)) dL_law_522 ?_
  refine lv_i2l hx hb dL_law_523 rfl ?_
  refine lv_ldc2 (v := (4294967295 : Int64)) hx hb hown (hts _ wL_k13) dL_law_524 ?_
  refine lv_land hx hb dL_law_527 ?_
  refine lv_lor hx hb dL_law_528 ?_
  refine lv_aload_n hx hb dL_law_529 rfl (lv_at hl 0 rfl) ?_
  refine lv_iload_n hx hb dL_law_530 rfl (lv_at hl 3 rfl) ?_
  refine lv_bipush (v := (6 : Int32)) hx hb dL_law_531 (by decide) ?_
  refine lv_iadd hx hb dL_law_533 ?_
  refine va_sld hx hb hXs hbl hbA hS (s_in hi hL 6 rfl (by omega)) dL_law_534 ?_
  have hq2 : PX7_chained r (sI xs i 1) (sJ xs i 2 3) (sJ xs i 4 5) (sI xs i 6) (fun (r9 : Int64) (r' : MmV) => r9 = (zCh Z (sI xs i 1) (sJ xs i 2 3) (sJ xs i 4 5) (sI xs i 6)).1 ∧ MK r' (zCh Z (sI xs i 1) (sJ xs i 2 3) (sJ xs i 4 5) (sI xs i 6)).2) := mCh hMK (post := (fun (r9 : Int64) (r' : MmV) => r9 = (zCh Z (sI xs i 1) (sJ xs i 2 3) (sJ xs i 4 5) (sI xs i 6)).1 ∧ MK r' (zCh Z (sI xs i 1) (sJ xs i 2 3) (sJ xs i 4 5) (sI xs i 6)).2)) (fun r' hk => ⟨rfl, hk⟩)
  refine va_calll (va_runV (As := [.int (sI xs i 1), .long (sJ xs i 2 3), .long (sJ xs i 4 5), .int (sI xs i 6)]) (rest := [.long ra]) ⟨hx, hb, hml, hown, hts⟩ (qX7_chained l dC dI am ci (Ax 7 am) (Ax_D g3) r (sI xs i 1) (sJ xs i 2 3) (sJ xs i 4 5) (sI xs i 6) _ hq2) (cwV 4 hts gL_law_X7_chained rfl rfl rfl (by decide +kernel) ⟨Nat.le_of_ble_eq_true rfl, Nat.le_of_ble_eq_true rfl⟩) ⟨xr_blind, xr_recv (r := (RX7, TX7, 9)) hK hPm 0 (by decide) me_M rfl, xr_pre hPm hK⟩ rfl rfl hl.1 rfl (lv_room (Nat.le_of_ble_eq_true rfl)) dL_law_535 ⟨(show u + 18 + 0 ≤ 600000 by omega), (show v + 3323 + 0 ≤ 7302250 by omega)⟩) hS (fun q _ h => fM q h) fM (fun rb r1 t9 H2 locs2 ht hvm hwB hB _ hk2 hS2 => ?_)
  refine W.cs (cells' := u + 18) (slots' := v + 3323) rfl rfl ?_
  have hP2 := x_th ht hB
  have hB1 := xB_keep hB1 hk2
  exact xr_if_lcmp_eq (tgt := 1216) hx hb dL_law_538 dL_law_539 (by decide) (fun _ => kk H2 locs2 ⟨(zCh Z (sI xs i 1) (sJ xs i 2 3) (sJ xs i 4 5) (sI xs i 6)).2, st1, ln, sv, kv1, cu, r1, hwA.2, hwB.2, zCh_I hIZ (sI xs i 1) (sJ xs i 2 3) (sJ xs i 4 5) (sI xs i 6), hB1, hP2, hS2⟩) (fun q => absurd ((hwA.1).trans (hwB.1).symm) q)
set_option maxHeartbeats 4000000 in
set_option maxRecDepth 100000 in
theorem lc_resting {p : Program} {e : Env} {s : State} {m : MethodId} {below : List Frame} {meth : Method} {c : Code} (l : Launch) {b L : Nat} {xs : Nat → Int32} (hL : L ≤ 3584) (C0 : lw_At p s m meth c b L xs) {dC : Nat → ClassId} {dI : Nat → Nat → Nat} {a0 : Nat} {ci : Nat → ClassId} {am : Nat → Nat} (G0 : LC s dC dI ci am) {i u v : Nat} (hu : u + 18 ≤ 600000) (hv : v + 3323 ≤ 7302250) (hi : i + 7 ≤ L) {H : Heap} {locs : List Loc} {ls : Array Slot} (hX : LX s dC dI a0 ci am H locs) (hl : lv_has ls 4 [(0, .ref b), (1, .ref a0), (2, .ref (am 0)), (3, .int (nI i))]) (kk : ∀ (H : Heap) (locs : List Loc), LX s dC dI a0 ci am H locs → W p l e room_1 s m #[Value.ref b] below meth c H locs (u + 18) (v + 3323) (lw_Z below #[Value.ref b] s) (F0 m 1216 ls [])) : W p l e room_1 s m #[Value.ref b] below meth c H locs u v (lw_Z below #[Value.ref b] s) (F0 m 544 ls []) := by
  obtain ⟨hx, hb, hr, hml, hown, hts0, hXs, hbl, hlocks, hgv⟩ := id C0
  have hts : ∀ w ∈ wsL_law, w.before #[Value.ref b] s = true := fun w h => hts0 w (wsL_law_in w h)
  have hown : s.vm.findClass RL = some m.cls := hown
  obtain ⟨hK, hN, g3, g4⟩ := id G0
  obtain ⟨Z, st, ln, sv, kv, cu, r, hKI, hMK, hIZ, hB0, hPm, hS⟩ := hX
  have hbA : ¬ (fun q : Nat => s.heap.size ≤ q) b := Nat.not_le.mpr hbl
  have fA : ∀ q, Ac s am q → (fun q : Nat => s.heap.size ≤ q) q := fun q h => h.1
  have fM : ∀ q, Ax 7 am q → (fun q : Nat => s.heap.size ≤ q) q := fun q ⟨k, h1, h2⟩ => by rw [h2]; exact g4 k h1
  refine lv_aload_n hx hb dL_law_544 rfl (lv_at hl 1 rfl) ?_
  refine lv_aload_n hx hb dL_law_545 rfl (lv_at hl 0 rfl) ?_
  refine lv_iload_n hx hb dL_law_546 rfl (lv_at hl 3 rfl) ?_
  refine lv_iconst (v := (1 : Int32)) hx hb dL_law_547 (by decide) ?_
  refine lv_iadd hx hb dL_law_548 ?_
  refine va_sld hx hb hXs hbl hbA hS (s_in hi hL 1 rfl (by omega)) dL_law_549 ?_
  refine lv_i2l hx hb dL_law_550 rfl ?_
  refine lv_bipush (v := (32 : Int32)) hx hb dL_law_551 (by decide) ?_
  refine lv_lshl hx hb dL_law_553 rfl ?_
  refine lv_aload_n hx hb dL_law_554 rfl (lv_at hl 0 rfl) ?_
  refine lv_iload_n hx hb dL_law_555 rfl (lv_at hl 3 rfl) ?_
  refine lv_iconst (v := (2 : Int32)) hx hb dL_law_556 (by decide) ?_
  refine lv_iadd hx hb dL_law_557 ?_
  refine va_sld hx hb hXs hbl hbA hS (s_in hi hL 2 rfl (by omega)) dL_law_558 ?_
  refine lv_i2l hx hb dL_law_559 rfl ?_
  refine lv_ldc2 (v := (4294967295 : Int64)) hx hb hown (hts _ wL_k13) dL_law_560 ?_
  refine lv_land hx hb dL_law_563 ?_
  refine lv_lor hx hb dL_law_564 ?_
  refine lv_aload_n hx hb dL_law_565 rfl (lv_at hl 0 rfl) ?_
  refine lv_iload_n hx hb dL_law_566 rfl (lv_at hl 3 rfl) ?_
  refine lv_iconst (v := (3 : Int32)) hx hb dL_law_567 (by decide) ?_
  refine lv_iadd hx hb dL_law_568 ?_
  refine va_sld hx hb hXs hbl hbA hS (s_in hi hL 3 rfl (by omega)) dL_law_569 ?_
  refine lv_i2l hx hb dL_law_570 rfl ?_
  refine lv_bipush (v := (32 : Int32)) hx hb dL_law_571 (by decide) ?_
  refine lv_lshl hx hb dL_law_573 rfl ?_
  refine lv_aload_n hx hb dL_law_574 rfl (lv_at hl 0 rfl) ?_
  refine lv_iload_n hx hb dL_law_575 rfl (lv_at hl 3 rfl) ?_
  refine lv_iconst (v := (4 : Int32)) hx hb dL_law_576 (by decide) ?_
  refine lv_iadd hx hb dL_law_577 ?_
  refine va_sld hx hb hXs hbl hbA hS (s_in hi hL 4 rfl (by omega)) dL_law_578 ?_
  refine lv_i2l hx hb dL_law_579 rfl ?_
  refine lv_ldc2 (v := (4294967295 : Int64)) hx hb hown (hts _ wL_k13) dL_law_580 ?_
  refine lv_land hx hb dL_law_583 ?_
  refine lv_lor hx hb dL_law_584 ?_
  refine lv_aload_n hx hb dL_law_585 rfl (lv_at hl 0 rfl) ?_
  refine lv_iload_n hx hb dL_law_586 rfl (lv_at hl 3 rfl) ?_
  refine lv_iconst (v := (5 : Int32)) hx hb dL_law_587 (by decide) ?_
  refine lv_iadd hx hb dL_law_588 ?_
  refine va_sld hx hb hXs hbl hbA hS (s_in hi hL 5 rfl (by omega)) dL_law_589 ?_
  refine lv_aload_n hx hb dL_law_590 rfl (lv_at hl 0 rfl) ?_
  refine lv_iload_n hx hb dL_law_591 rfl (lv_at hl 3 rfl) ?_
  refine lv_bipush (v := (6 : Int32)) hx hb dL_law_592 (by decide) ?_
  refine lv_iadd hx hb dL_law_594 ?_
  refine va_sld hx hb hXs hbl hbA hS (s_in hi hL 6 rfl (by omega)) dL_law_595 ?_
  have hq : PX6_resting st kv cu (sJ xs i 1 2) (sJ xs i 3 4) (sI xs i 5) (sI xs i 6) (fun (r9 : Int64) (st' : Nat → StV) (kv' : KvV) => r9 = (zRep Z 4 (sJ xs i 1 2) (sJ xs i 3 4) (sI xs i 5) (sI xs i 6)).1 ∧ KI st' kv' cu (zRep Z 4 (sJ xs i 1 2) (sJ xs i 3 4) (sI xs i 5) (sI xs i 6)).2) := cRep hKI (kd := 4) (by decide) (post := (fun (r9 : Int64) (st' : Nat → StV) (kv' : KvV) => r9 = (zRep Z 4 (sJ xs i 1 2) (sJ xs i 3 4) (sI xs i 5) (sI xs i 6)).1 ∧ KI st' kv' cu (zRep Z 4 (sJ xs i 1 2) (sJ xs i 3 4) (sI xs i 5) (sI xs i 6)).2)) (fun st' kv' hk => ⟨rfl, hk⟩)
  refine va_calll (va_runV (As := [.long (sJ xs i 1 2), .long (sJ xs i 3 4), .int (sI xs i 5), .int (sI xs i 6)]) (rest := []) ⟨hx, hb, hml, hown, hts⟩ (qX6_resting l dC dI ci (Ac s am) a0 st ln sv kv cu (sJ xs i 1 2) (sJ xs i 3 4) (sI xs i 5) (sI xs i 6) _ hq) (cwV 4 hts gL_law_X6_resting rfl rfl rfl (by decide +kernel) ⟨Nat.le_of_ble_eq_true rfl, Nat.le_of_ble_eq_true rfl⟩) ⟨xk_blind, xB_recv hK hB0, xk_pre hB0 hK hN (newA hS.1 hPm)⟩ rfl rfl hl.1 rfl (lv_room (Nat.le_of_ble_eq_true rfl)) dL_law_596 ⟨(show u + 18 ≤ 600000 by omega), (show v + 3323 ≤ 7302250 by omega)⟩) hS (fun q _ h => fA q h) fA (fun ra u9 t9 H1 locs1 ht hvm hwA hB _ hk1 hS1 => ?_)
  refine W.cs (cells' := u + 18) (slots' := v + 3323) rfl rfl ?_
  obtain ⟨st1, kv1⟩ := u9
  have hB1 := xB_th ht hB
  have hPm := keepA hPm hk1
  have hS := hS1
  refine lv_aload_n hx hb dL_law_599 rfl (lv_at hl 2 rfl) ?_
  refine lv_aload_n hx hb dL_law_600 rfl (lv_at hl 0 rfl) ?_
  refine lv_iload_n hx hb dL_law_601 rfl (lv_at hl 3 rfl) ?_
  refine lv_iconst (v := (1 : Int32)) hx hb dL_law_602 (by decide) ?_
  refine lv_iadd hx hb dL_law_603 ?_
  refine va_sld hx hb hXs hbl hbA hS (s_in hi hL 1 rfl (by omega)) dL_law_604 ?_
  refine lv_i2l hx hb dL_law_605 rfl ?_
  refine lv_bipush (v := (32 : Int32)) hx hb dL_law_606 (by decide) ?_
  refine lv_lshl hx hb dL_law_608 rfl ?_
  refine lv_aload_n hx hb dL_law_609 rfl (lv_at hl 0 rfl) ?_
  refine lv_iload_n hx hb dL_law_610 rfl (lv_at hl 3 rfl) ?_
  refine lv_iconst (v := (2 : Int32)) hx hb dL_law_611 (by decide) ?_
  refine lv_iadd hx hb dL_law_612 ?_
  refine va_sld hx hb hXs hbl hbA hS (s_in hi hL 2 rfl (by omega)) dL_law_613 ?_
  refine lv_i2l hx hb dL_law_614 rfl ?_
  refine lv_ldc2 (v := (4294967295 : Int64)) hx hb hown (hts _ wL_k13) dL_law_615 ?_
  refine lv_land hx hb dL_law_618 ?_
  refine lv_lor hx hb dL_law_619 ?_
  refine lv_aload_n hx hb dL_law_620 rfl (lv_at hl 0 rfl) ?_
  refine lv_iload_n hx hb dL_law_621 rfl (lv_at hl 3 rfl) ?_
  refine lv_iconst (v := (3 : Int32)) hx hb dL_law_622 (by decide) ?_
  refine lv_iadd hx hb dL_law_623 ?_
  refine va_sld hx hb hXs hbl hbA hS (s_in hi hL 3 rfl (by omega)) dL_law_624 ?_
  refine lv_i2l hx hb dL_law_625 rfl ?_
  refine lv_bipush (v := (32 : Int32)) hx hb dL_law_626 (by decide) ?_
  refine lv_lshl hx hb dL_law_628 rfl ?_
  refine lv_aload_n hx hb dL_law_629 rfl (lv_at hl 0 rfl) ?_
  refine lv_iload_n hx hb dL_law_630 rfl (lv_at hl 3 rfl) ?_
  refine lv_iconst (v := (4 : Int32)) hx hb dL_law_631 (by decide) ?_
  refine lv_iadd hx hb dL_law_632 ?_
  refine va_sld hx hb hXs hbl hbA hS (s_in hi hL 4 rfl (by omega)) dL_law_633 ?_
  refine lv_i2l hx hb dL_law_634 rfl ?_
  refine lv_ldc2 (v := (4294967295 : Int64)) hx hb hown (hts _ wL_k13) dL_law_635 ?_
  refine lv_land hx hb dL_law_638 ?_
  refine lv_lor hx hb dL_law_639 ?_
  refine lv_aload_n hx hb dL_law_640 rfl (lv_at hl 0 rfl) ?_
  refine lv_iload_n hx hb dL_law_641 rfl (lv_at hl 3 rfl) ?_
  refine lv_iconst (v := (5 : Int32)) hx hb dL_law_642 (by decide) ?_
  refine lv_iadd hx hb dL_law_643 ?_
  refine va_sld hx hb hXs hbl hbA hS (s_in hi hL 5 rfl (by omega)) dL_law_644 ?_
  refine lv_aload_n hx hb dL_law_645 rfl (lv_at hl 0 rfl) ?_
  refine lv_iload_n hx hb dL_law_646 rfl (lv_at hl 3 rfl) ?_
  refine lv_bipush (v := (6 : Int32)) hx hb dL_law_647 (by decide) ?_
  refine lv_iadd hx hb dL_law_649 ?_
  refine va_sld hx hb hXs hbl hbA hS (s_in hi hL 6 rfl (by omega)) dL_law_650 ?_
  have hq2 : PX7_resting r (sJ xs i 1 2) (sJ xs i 3 4) (sI xs i 5) (sI xs i 6) (fun (r9 : Int64) (r' : MmV) => r9 = (zRep Z 4 (sJ xs i 1 2) (sJ xs i 3 4) (sI xs i 5) (sI xs i 6)).1 ∧ MK r' (zRep Z 4 (sJ xs i 1 2) (sJ xs i 3 4) (sI xs i 5) (sI xs i 6)).2) := mRep hMK (kd := 4) (by decide) (by decide) (post := (fun (r9 : Int64) (r' : MmV) => r9 = (zRep Z 4 (sJ xs i 1 2) (sJ xs i 3 4) (sI xs i 5) (sI xs i 6)).1 ∧ MK r' (zRep Z 4 (sJ xs i 1 2) (sJ xs i 3 4) (sI xs i 5) (sI xs i 6)).2)) (fun r' hk => ⟨rfl, hk⟩)
  refine va_calll (va_runV (As := [.long (sJ xs i 1 2), .long (sJ xs i 3 4), .int (sI xs i 5), .int (sI xs i 6)]) (rest := [.long ra]) ⟨hx, hb, hml, hown, hts⟩ (qX7_resting l dC dI am ci (Ax 7 am) (Ax_D g3) r (sJ xs i 1 2) (sJ xs i 3 4) (sI xs i 5) (sI xs i 6) _ hq2) (cwV 4 hts gL_law_X7_resting rfl rfl rfl (by decide +kernel) ⟨Nat.le_of_ble_eq_true rfl, Nat.le_of_ble_eq_true rfl⟩) ⟨xr_blind, xr_recv (r := (RX7, TX7, 9)) hK hPm 0 (by decide) me_M rfl, xr_pre hPm hK⟩ rfl rfl hl.1 rfl (lv_room (Nat.le_of_ble_eq_true rfl)) dL_law_651 ⟨(show u + 18 + 0 ≤ 600000 by omega), (show v + 3323 + 0 ≤ 7302250 by omega)⟩) hS (fun q _ h => fM q h) fM (fun rb r1 t9 H2 locs2 ht hvm hwB hB _ hk2 hS2 => ?_)
  refine W.cs (cells' := u + 18) (slots' := v + 3323) rfl rfl ?_
  have hP2 := x_th ht hB
  have hB1 := xB_keep hB1 hk2
  exact xr_if_lcmp_eq (tgt := 1216) hx hb dL_law_654 dL_law_655 (by decide) (fun _ => kk H2 locs2 ⟨(zRep Z 4 (sJ xs i 1 2) (sJ xs i 3 4) (sI xs i 5) (sI xs i 6)).2, st1, ln, sv, kv1, cu, r1, hwA.2, hwB.2, zRep_I hIZ (kd := 4) (Or.inr (by decide)) (sJ xs i 1 2) (sJ xs i 3 4) (sI xs i 5) (sI xs i 6), hB1, hP2, hS2⟩) (fun q => absurd ((hwA.1).trans (hwB.1).symm) q)
set_option maxHeartbeats 4000000 in
set_option maxRecDepth 100000 in
theorem lc_drop {p : Program} {e : Env} {s : State} {m : MethodId} {below : List Frame} {meth : Method} {c : Code} (l : Launch) {b L : Nat} {xs : Nat → Int32} (hL : L ≤ 3584) (C0 : lw_At p s m meth c b L xs) {dC : Nat → ClassId} {dI : Nat → Nat → Nat} {a0 : Nat} {ci : Nat → ClassId} {am : Nat → Nat} (G0 : LC s dC dI ci am) {i u v : Nat} (hu : u + 18 ≤ 600000) (hv : v + 3323 ≤ 7302250) (hi : i + 7 ≤ L) {H : Heap} {locs : List Loc} {ls : Array Slot} (hX : LX s dC dI a0 ci am H locs) (hl : lv_has ls 4 [(0, .ref b), (1, .ref a0), (2, .ref (am 0)), (3, .int (nI i))]) (kk : ∀ (H : Heap) (locs : List Loc), LX s dC dI a0 ci am H locs → W p l e room_1 s m #[Value.ref b] below meth c H locs (u + 18) (v + 3323) (lw_Z below #[Value.ref b] s) (F0 m 1216 ls [])) : W p l e room_1 s m #[Value.ref b] below meth c H locs u v (lw_Z below #[Value.ref b] s) (F0 m 660 ls []) := by
  obtain ⟨hx, hb, hr, hml, hown, hts0, hXs, hbl, hlocks, hgv⟩ := id C0
  have hts : ∀ w ∈ wsL_law, w.before #[Value.ref b] s = true := fun w h => hts0 w (wsL_law_in w h)
  have hown : s.vm.findClass RL = some m.cls := hown
  obtain ⟨hK, hN, g3, g4⟩ := id G0
  obtain ⟨Z, st, ln, sv, kv, cu, r, hKI, hMK, hIZ, hB0, hPm, hS⟩ := hX
  have hbA : ¬ (fun q : Nat => s.heap.size ≤ q) b := Nat.not_le.mpr hbl
  have fA : ∀ q, Ac s am q → (fun q : Nat => s.heap.size ≤ q) q := fun q h => h.1
  have fM : ∀ q, Ax 7 am q → (fun q : Nat => s.heap.size ≤ q) q := fun q ⟨k, h1, h2⟩ => by rw [h2]; exact g4 k h1
  refine lv_aload_n hx hb dL_law_660 rfl (lv_at hl 1 rfl) ?_
  refine lv_aload_n hx hb dL_law_661 rfl (lv_at hl 0 rfl) ?_
  refine lv_iload_n hx hb dL_law_662 rfl (lv_at hl 3 rfl) ?_
  refine lv_iconst (v := (1 : Int32)) hx hb dL_law_663 (by decide) ?_
  refine lv_iadd hx hb dL_law_664 ?_
  refine va_sld hx hb hXs hbl hbA hS (s_in hi hL 1 rfl (by omega)) dL_law_665 ?_
  have hq : PX6_drop st kv cu (sI xs i 1) (fun (r9 : Int64) (st' : Nat → StV) (kv' : KvV) => r9 = (zDrop Z (sI xs i 1)).1 ∧ KI st' kv' cu (zDrop Z (sI xs i 1)).2) := cDrop hKI hIZ.1 (post := (fun (r9 : Int64) (st' : Nat → StV) (kv' : KvV) => r9 = (zDrop Z (sI xs i 1)).1 ∧ KI st' kv' cu (zDrop Z (sI xs i 1)).2)) (fun st' kv' hk => ⟨rfl, hk⟩)
  refine va_calll (va_runV (As := [.int (sI xs i 1)]) (rest := []) ⟨hx, hb, hml, hown, hts⟩ (qX6_drop l dC dI ci (Ac s am) a0 st ln sv kv cu (sI xs i 1) _ hq) (cwV 1 hts gL_law_X6_drop rfl rfl rfl (by decide +kernel) ⟨Nat.le_of_ble_eq_true rfl, Nat.le_of_ble_eq_true rfl⟩) ⟨xk_blind, xB_recv hK hB0, xk_pre hB0 hK hN (newA hS.1 hPm)⟩ rfl rfl hl.1 rfl (lv_room (Nat.le_of_ble_eq_true rfl)) dL_law_666 ⟨(show u + 18 ≤ 600000 by omega), (show v + 3323 ≤ 7302250 by omega)⟩) hS (fun q _ h => fA q h) fA (fun ra u9 t9 H1 locs1 ht hvm hwA hB _ hk1 hS1 => ?_)
  refine W.cs (cells' := u + 18) (slots' := v + 3323) rfl rfl ?_
  obtain ⟨st1, kv1⟩ := u9
  have hB1 := xB_th ht hB
  have hPm := keepA hPm hk1
  have hS := hS1
  refine lv_aload_n hx hb dL_law_669 rfl (lv_at hl 2 rfl) ?_
  refine lv_aload_n hx hb dL_law_670 rfl (lv_at hl 0 rfl) ?_
  refine lv_iload_n hx hb dL_law_671 rfl (lv_at hl 3 rfl) ?_
  refine lv_iconst (v := (1 : Int32)) hx hb dL_law_672 (by decide) ?_
  refine lv_iadd hx hb dL_law_673 ?_
  refine va_sld hx hb hXs hbl hbA hS (s_in hi hL 1 rfl (by omega)) dL_law_674 ?_
  have hq2 : PX7_drop r (sI xs i 1) (fun (r9 : Int64) (r' : MmV) => r9 = (zDrop Z (sI xs i 1)).1 ∧ MK r' (zDrop Z (sI xs i 1)).2) := mDrop hMK hIZ.1 (post := (fun (r9 : Int64) (r' : MmV) => r9 = (zDrop Z (sI xs i 1)).1 ∧ MK r' (zDrop Z (sI xs i 1)).2)) (fun r' hk => ⟨rfl, hk⟩)
  refine va_calll (va_runV (As := [.int (sI xs i 1)]) (rest := [.long ra]) ⟨hx, hb, hml, hown, hts⟩ (qX7_drop l dC dI am ci (Ax 7 am) (Ax_D g3) r (sI xs i 1) _ hq2) (cwV 1 hts gL_law_X7_drop rfl rfl rfl (by decide +kernel) ⟨Nat.le_of_ble_eq_true rfl, Nat.le_of_ble_eq_true rfl⟩) ⟨xr_blind, xr_recv (r := (RX7, TX7, 9)) hK hPm 0 (by decide) me_M rfl, xr_pre hPm hK⟩ rfl rfl hl.1 rfl (lv_room (Nat.le_of_ble_eq_true rfl)) dL_law_675 ⟨(show u + 18 + 0 ≤ 600000 by omega), (show v + 3323 + 0 ≤ 7302250 by omega)⟩) hS (fun q _ h => fM q h) fM (fun rb r1 t9 H2 locs2 ht hvm hwB hB _ hk2 hS2 => ?_)
  refine W.cs (cells' := u + 18) (slots' := v + 3323) rfl rfl ?_
  have hP2 := x_th ht hB
  have hB1 := xB_keep hB1 hk2
  exact xr_if_lcmp_eq (tgt := 1216) hx hb dL_law_678 dL_law_679 (by decide) (fun _ => kk H2 locs2 ⟨(zDrop Z (sI xs i 1)).2, st1, ln, sv, kv1, cu, r1, hwA.2, hwB.2, zDrop_I hIZ (sI xs i 1), hB1, hP2, hS2⟩) (fun q => absurd ((hwA.1).trans (hwB.1).symm) q)
