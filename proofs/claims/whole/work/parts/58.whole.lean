set_option maxHeartbeats 4000000 in
set_option maxRecDepth 100000 in
/-- THE LAW, from its entry -/
theorem whole_start {p : Program} {e : Env} {s : State} {m : MethodId} {below : List Frame} {meth : Method} {c : Code} (l : Launch) {b L : Nat} {xs : Nat → Int32} (hL : L ≤ 3584) (C0 : lw_At p s m meth c b L xs) : W p l e room_1 s m #[Value.ref b] below meth c s.heap [] 0 0 (lw_Z below #[Value.ref b] s) (entryFrame m ([Value.ref b] : List Value).toArray 4) := by
  obtain ⟨hx, hb, hr, hml, hown, hts0, hXs, hbl, hlocks, hgv⟩ := id C0
  have hts : ∀ w ∈ wsL_law, w.before #[Value.ref b] s = true := fun w h => hts0 w (wsL_law_in w h)
  have hown : s.vm.findClass RL = some m.cls := hown
  have hA : ∀ q : Nat, s.heap.size ≤ q → (fun q : Nat => s.heap.size ≤ q) q := fun _ h => h
  have hbA : ¬ (fun q : Nat => s.heap.size ≤ q) b := Nat.not_le.mpr hbl
  obtain ⟨c0, iS0, hKn0⟩ := u_known (C := RX0) (T := TX0) (N := 1) (n := 1) hts0 inX0 (hts0 (.instantiable RX0 1) (by decide +kernel))
  obtain ⟨c1, iS1, hKn1⟩ := u_known (C := RX1) (T := TX1) (N := 3) (n := 3) hts0 inX1 (hts0 (.instantiable RX1 3) (by decide +kernel))
  obtain ⟨c2, iS2, hKn2⟩ := u_known (C := RX2) (T := TX2) (N := 4) (n := 4) hts0 inX2 (hts0 (.instantiable RX2 4) (by decide +kernel))
  obtain ⟨c3, iS3, hKn3⟩ := u_known (C := RX3) (T := TX3) (N := 4) (n := 4) hts0 inX3 (hts0 (.instantiable RX3 4) (by decide +kernel))
  obtain ⟨c4, iS4, hKn4⟩ := u_known (C := RX4) (T := TX4) (N := 8) (n := 8) hts0 inX4 (hts0 (.instantiable RX4 8) (by decide +kernel))
  obtain ⟨c5, iS5, hKn5⟩ := u_known (C := RX6) (T := TX6) (N := 4) (n := 4) hts0 inX6 (hts0 (.instantiable RX6 4) (by decide +kernel))
  obtain ⟨c6, iS6, hKn6⟩ := u_known (C := RX7) (T := TX7) (N := 9) (n := 9) hts0 inX7 (hts0 (.instantiable RX7 9) (by decide +kernel))
  obtain ⟨dC, dI, hKc⟩ : ∃ (dC : Nat → ClassId) (dI : Nat → Nat → Nat), ∀ (k : Nat) (q : vw_C), vwCl[k]? = some q → u_Kn s q.1 q.2.1 q.2.2 (dC k) (dI k) := by
    refine ⟨fun k => if k = 0 then c0 else if k = 1 then c1 else if k = 2 then c2 else if k = 3 then c3 else if k = 4 then c4 else if k = 5 then c5 else c6, fun k => if k = 0 then iS0 else if k = 1 then iS1 else if k = 2 then iS2 else if k = 3 then iS3 else if k = 4 then iS4 else if k = 5 then iS5 else iS6, ?_⟩
    intro k q hq
    match k, hq with
    | 0, hq => cases hq; exact hKn0
    | 1, hq => cases hq; exact hKn1
    | 2, hq => cases hq; exact hKn2
    | 3, hq => cases hq; exact hKn3
    | 4, hq => cases hq; exact hKn4
    | 5, hq => cases hq; exact hKn5
    | 6, hq => cases hq; exact hKn6
    | k + 7, hq => simp [vwCl] at hq
  obtain ⟨a0, ar0, af0⟩ := arr_K (hts0 (.arrayClass .int) (by decide +kernel))
  obtain ⟨a1, ar1, af1⟩ := arr_K (hts0 (.arrayClass .long) (by decide +kernel))
  obtain ⟨a2, ar2, af2⟩ := arr_K (hts0 (.arrayClass .boolean) (by decide +kernel))
  have ho3 : (Cond.arrayOver (.object "DueWheels$State")).before #[Value.ref b] s = true := hts0 _ (by decide +kernel)
  have ho4 : (Cond.arrayOver (.array .long)).before #[Value.ref b] s = true := hts0 _ (by decide +kernel)
  obtain ⟨comp3, a3, k3, o1, o2, o3, o4, o5⟩ := Cond.arrayOver_spec ho3
  obtain ⟨comp4, a4, k4, u1, u2, u3, u4, u5⟩ := Jvm.Stand.arrayOver_specB ho4
  obtain ⟨ci, eci⟩ : ∃ ci : Nat → ClassId, ci = fun k => if k = 0 then a0 else if k = 1 then a1 else if k = 2 then a2 else if k = 3 then a3 else a4 := ⟨_, rfl⟩
  have e0 : ci 0 = a0 := by rw [eci]; rfl
  have e1 : ci 1 = a1 := by rw [eci]; rfl
  have e2 : ci 2 = a2 := by rw [eci]; rfl
  have e3 : ci 3 = a3 := by rw [eci]; rfl
  have e4 : ci 4 = a4 := by rw [eci]; rfl
  have hK : va_K (dC, dI) vwCl (xT ci) s := by
    refine ⟨hKc, fun k q hq => ?_⟩
    unfold xT at hq
    rw [e0, e1, e2, e3, e4] at hq
    match k, hq with
    | 0, hq => cases hq; exact ⟨ar0, af0⟩
    | 1, hq => cases hq; exact ⟨ar1, af1⟩
    | 2, hq => cases hq; exact ⟨ar2, af2⟩
    | 3, hq => cases hq; exact ⟨fun N z => ⟨(fun k h => by cases h), k3, o3, comp3, o4⟩, k3, comp3, o3, o4, o1, o5⟩
    | 4, hq => cases hq; exact ⟨fun N z => ⟨(fun k h => by cases h), k4, u3, comp4, u4⟩, u5⟩
    | k + 5, hq => simp at hq
  have hN : xN s := ⟨va_AO.of ho3, ho4, va_Nw.of rfl (hts0 (.methodLinkNest RX1 21 yX4_init "DueWheels") (by decide +kernel)), va_Nw.of rfl (hts0 (.methodLinkNest RX6 18 yX0_init "DueWheels") (by decide +kernel)), va_Nw.of rfl (hts0 (.methodLinkNest RX0 11 yX2_init "DueWheels") (by decide +kernel)), va_Nw.of rfl (hts0 (.methodLinkNest RX6 25 yX3_init "DueWheels") (by decide +kernel)), va_Nw.of rfl (hts0 (.methodLinkNest RX3 11 yX2_init "DueWheels") (by decide +kernel)), va_Nw.of rfl (hts0 (.methodLinkNest RX6 32 yX4_init "DueWheels") (by decide +kernel)), va_Nw.of rfl (hts0 (.methodLinkNest RX6 9 yX1_init "DueWheels") (by decide +kernel))⟩
  have hS : va_S (fun q : Nat => s.heap.size ≤ q) s.heap s.heap [] := va_S.rf
  have hP : va_P (dC, dI) vwCl [] s.heap := fun k q h => by simp at h
  have hD : va_D (fun q : Nat => s.heap.size ≤ q) [] := ⟨fun i j p q h => by simp at h, fun k q h => by simp at h⟩
  have hl := lv_entry ([.ref b]) (n := 4) (Nat.le_of_ble_eq_true rfl)
  rw [lg_entry_eq]
  generalize (lg_sl ([.ref b]) ++ List.replicate (4 - (lg_sl ([.ref b])).length) Slot.unset).toArray = ls at hl ⊢
  have hl : lv_has ls 4 [(0, .ref b)] := hl
  refine va_new (ci := 5) (fs := [.null, .null, .null, .null]) (C := RX6) (T := TX6) (N := 4) hx hb hts inlX6 tyX6 tyX6_ok hown (hts0 (.classLink RL 7 RX6) (by decide +kernel)) (hts0 (.instantiable RX6 4) (by decide +kernel)) (hts0 (.initialized RX6) (by decide +kernel)) hK hP hD hS hA rfl (fun j hj => by rcases (show j = 0 ∨ j = 1 ∨ j = 2 ∨ j = 3 by omega) with rfl | rfl | rfl | rfl <;> rfl) (show 0 + 1 ≤ 600000 by omega) (show 0 + 4 ≤ 7302250 by omega) dL_law_0 (fun q0 H hP hD hS => ?_)
  refine lv_dup hx hb dL_law_3 rfl ?_
  have hP : va_P (dC, dI) vwCl ([] ++ [(q0, eX0)]) H := hP
  have hD : va_D (fun q : Nat => s.heap.size ≤ q) ([] ++ [(q0, eX0)]) := hD
  have hF := A_sub hD hS hA
  have hs0 := hS.1
  refine va_callv (va_runI (As := []) (rest := [.ref q0]) ⟨hx, hb, hml, hown, hts⟩ (nX6_init l dC dI ci q0 H.size) (cwI 0 hts gL_law_X6_init rfl rfl rfl (hts0 (.initialized RX6) (by decide +kernel)) (hts0 (.methodLink RL 9 yX6_init) (by decide +kernel)) (hts0 (.instanceMethod yX6_init) (by decide +kernel)) rfl (by decide +kernel) ⟨Nat.le_of_ble_eq_true rfl, Nat.le_of_ble_eq_true rfl⟩) ⟨cP_blind, cP_pre (last_P hP) hK hN⟩ rfl rfl hl.1 rfl (lv_room (Nat.le_of_ble_eq_true rfl)) dL_law_4 ⟨(show 0 + 1 + 32 ≤ 600000 by omega), (show 0 + 4 + 4945 ≤ 7302250 by omega)⟩) hS (fun x _ hx => hF x hx) hF (fun ad t H1 locs ht hvm hwad hB hz1 hk1 hS => ?_)
  obtain ⟨hP, hD⟩ := blk_join hP hD hk1 (x_th ht hB) hwad (fun x hx => hA x (Nat.le_trans hs0 hx))
  have ea : ad 0 = q0 := hwad.1
  refine lv_astore_n (lv' := [(1, .ref q0), (0, .ref b)]) hx hb dL_law_7 rfl hl (by decide) rfl (fun ls hl => ?_)
  refine va_new (ci := 6) (fs := [.null, .null, .int 0, .null, .int 0, .null, .null, .int 0, .null]) (C := RX7) (T := TX7) (N := 9) hx hb hts inlX7 tyX7 tyX7_ok hown (hts0 (.classLink RL 10 RX7) (by decide +kernel)) (hts0 (.instantiable RX7 9) (by decide +kernel)) (hts0 (.initialized RX7) (by decide +kernel)) hK hP hD hS hA rfl (fun j hj => by rcases (show j = 0 ∨ j = 1 ∨ j = 2 ∨ j = 3 ∨ j = 4 ∨ j = 5 ∨ j = 6 ∨ j = 7 ∨ j = 8 by omega) with rfl | rfl | rfl | rfl | rfl | rfl | rfl | rfl | rfl <;> rfl) (show 0 + 1 + 32 + 1 ≤ 600000 by omega) (show 0 + 4 + 4945 + 9 ≤ 7302250 by omega) dL_law_8 (fun q1 H hP hD hS => ?_)
  refine lv_dup hx hb dL_law_11 rfl ?_
  have hF := A_sub hD hS hA
  have hs0 := hS.1
  refine va_callv (va_runI (As := []) (rest := [.ref q1]) ⟨hx, hb, hml, hown, hts⟩ (nX7_init l dC dI ci q1 H.size) (cwI 0 hts gL_law_X7_init rfl rfl rfl (hts0 (.initialized RX7) (by decide +kernel)) (hts0 (.methodLink RL 12 yX7_init) (by decide +kernel)) (hts0 (.instanceMethod yX7_init) (by decide +kernel)) rfl (by decide +kernel) ⟨Nat.le_of_ble_eq_true rfl, Nat.le_of_ble_eq_true rfl⟩) ⟨cP_blind, cP_pre (last_P hP) hK hN⟩ rfl rfl hl.1 rfl (lv_room (Nat.le_of_ble_eq_true rfl)) dL_law_12 ⟨(show 0 + 1 + 32 + 1 + 6 ≤ 600000 by omega), (show 0 + 4 + 4945 + 9 + 26735 ≤ 7302250 by omega)⟩) hS (fun x _ hx => hF x hx) hF (fun am t H1 locs ht hvm hwam hB hz1 hk1 hS => ?_)
  obtain ⟨hP, hD⟩ := blk_join hP hD hk1 (x_th ht hB) hwam (fun x hx => hA x (Nat.le_trans hs0 hx))
  have eb : am 0 = q1 := hwam.1
  refine lv_astore_n (lv' := [(2, .ref q1), (1, .ref q0), (0, .ref b)]) hx hb dL_law_15 rfl hl (by decide) rfl (fun ls hl => ?_)
  refine lv_iconst (v := (0 : Int32)) hx hb dL_law_16 (by decide) ?_
  refine lv_istore_n (lv' := [(3, .int 0), (2, .ref q1), (1, .ref q0), (0, .ref b)]) hx hb dL_law_17 rfl hl (by decide) rfl (fun ls hl => ?_)
  have hl : lv_has ls 4 [(0, .ref b), (1, .ref q0), (2, .ref (am 0)), (3, .int (nI 0))] := by
    rw [eb]
    exact lv_sub hl [3, 2, 1, 0] rfl
  have lenX : ∀ (f : Nat → va_E), (xw 33 ad f).length = 33 := fun f => by simp [xw]
  have atX : ∀ k, k < 33 → ([] ++ xw 33 ad (xc ad ci st0 ln0 sv0 kv0 0) ++ xw 7 am (mc am ci r0M))[k]? = some (ad k, xc ad ci st0 ln0 sv0 kv0 0 k) := fun k hk => by
    rw [List.nil_append, List.getElem?_append_left (by rw [lenX]; exact hk), xw_at hk]
  have atM : ∀ k, k < 7 → ([] ++ xw 33 ad (xc ad ci st0 ln0 sv0 kv0 0) ++ xw 7 am (mc am ci r0M))[33 + k]? = some (am k, mc am ci r0M k) := fun k hk => by
    rw [List.nil_append, List.getElem?_append_right (by rw [lenX]; omega), lenX, show 33 + k - 33 = k by omega, xw_at hk]
  have G0 : LC s dC dI ci am := by
    refine ⟨hK, hN, fun i j hi hj e => ?_, fun k hk => hD.2 _ _ (atM k hk)⟩
    have := hD.1 _ _ _ _ (atM i hi) (atM j hj) e
    omega
  have hX : LX s dC dI q0 ci am H1 locs := by
    refine ⟨(T0, []), st0, ln0, sv0, kv0, 0, r0M, KI0, MK0, IZ0, ⟨ad, 1, rfl, ea, ⟨fun i j hi hj e => ?_, fun k hk => ⟨?_, fun j hj e => ?_⟩⟩, Nat.zero_lt_one, fun k x hk => ?_⟩, fun k x hk => ?_, hS⟩
    · have hi : i < 33 := hi
      have hj : j < 33 := hj
      exact hD.1 i j _ _ (atX i hi) (atX j hj) e
    · have hk : k < 33 := hk
      exact hD.2 k _ (atX k hk)
    · have hk : k < 33 := hk
      have := hD.1 _ _ _ _ (atX k hk) (atM j hj) e
      omega
    · obtain ⟨h1, rfl⟩ := xw_of hk
      have h1 : k < 33 := h1
      exact hP k _ (atX k h1)
    · obtain ⟨h1, rfl⟩ := xw_of hk
      exact hP _ _ (atM k h1)
  refine W.cs (cells' := 40 + 18 * 0) (slots' := 31693 + 3323 * 0) rfl rfl ?_
  exact law_loop l hL C0 G0 (L + 1) 0 0 H1 locs ls (by omega) (Nat.zero_le _) rfl hX hl
