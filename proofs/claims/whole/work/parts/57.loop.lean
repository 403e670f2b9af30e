theorem m31 (x : Int32) : ∃ j : Nat, j < 32 ∧ x &&& 31 = nI j := pk_andE x 5 (by decide)
set_option maxHeartbeats 4000000 in
set_option maxRecDepth 100000 in
theorem law_loop {p : Program} {e : Env} {s : State} {m : MethodId} {below : List Frame} {meth : Method} {c : Code} (l : Launch) {b L : Nat} {xs : Nat → Int32} (hL : L ≤ 3584) (C0 : lw_At p s m meth c b L xs) {dC : Nat → ClassId} {dI : Nat → Nat → Nat} {a0 : Nat} {ci : Nat → ClassId} {am : Nat → Nat} (G0 : LC s dC dI ci am) : ∀ (n k i : Nat) (H : Heap) (locs : List Loc) (ls : Array Slot), L + 7 ≤ i + 7 * n → i ≤ L → i = 7 * k → LX s dC dI a0 ci am H locs → lv_has ls 4 [(0, .ref b), (1, .ref a0), (2, .ref (am 0)), (3, .int (nI i))] → W p l e room_1 s m #[Value.ref b] below meth c H locs (40 + 18 * k) (31693 + 3323 * k) (lw_Z below #[Value.ref b] s) (F0 m 18 ls []) := by
  obtain ⟨hx, hb, hr, hml, hown, hts0, hXs, hbl, hlocks, hgv⟩ := id C0
  have hbA : ¬ (fun q : Nat => s.heap.size ≤ q) b := Nat.not_le.mpr hbl
  intro n
  induction n with
  | zero =>
    intro k i H locs ls h1 h2
    exact absurd h1 (by omega)
  | succ n ih =>
    intro k i H locs ls h1 h2 hik hX hl
    have hS : va_S (fun q : Nat => s.heap.size ≤ q) s.heap H locs := by
      obtain ⟨_, _, _, _, _, _, _, _, _, _, _, _, hS⟩ := hX
      exact hS
    refine lv_iload_n hx hb dL_law_18 rfl (lv_at hl 3 rfl) ?_
    refine lv_aload_n hx hb dL_law_19 rfl (lv_at hl 0 rfl) ?_
    refine va_slen hx hb hXs hbl hbA hS dL_law_20 ?_
    refine lv_bipush (v := (7 : Int32)) hx hb dL_law_21 (by decide) ?_
    refine lv_isub hx hb dL_law_23 ?_
    refine lv_icmp_gt (tgt := 1222) hx hb dL_law_24 (by decide) (fun c_1 => ?_) (fun c_1 => ?_)
    · refine lv_iconst (v := 1) hx hb dL_law_1222 (by decide) ?_
      refine W.widen (k := 600000) (n := 7302250) (by omega) (by omega) ?_
      refine va_forget (fun q hq => hS.2.2 q hq) ?_
      exact lw_ret hx hb hr hlocks dL_law_1223
    · have hi : i + 7 ≤ L := by
        have e1 : (Int32.ofNat L - (7 : Int32)).toInt = (L : Int) - 7 := pk_sub_toInt (a := L) (b := 7) (by omega) (by omega)
        rw [Int32.lt_iff_toInt_lt, nI_toInt (by omega)] at c_1
        have e2 : (Int32.ofNat L - 7).toInt = (L : Int) - 7 := e1
        rw [e2] at c_1
        omega
      refine lv_aload_n hx hb dL_law_27 rfl (lv_at hl 0 rfl) ?_
      refine lv_iload_n hx hb dL_law_28 rfl (lv_at hl 3 rfl) ?_
      refine va_sld hx hb hXs hbl hbA hS (vp_in_nI (by omega) (by omega)) dL_law_29 ?_
      refine lv_bipush (v := (31 : Int32)) hx hb dL_law_30 (by decide) ?_
      refine lv_iand hx hb dL_law_32 ?_
      have hu : 40 + 18 * k + 18 ≤ 600000 := by omega
      have hv : 31693 + 3323 * k + 3323 ≤ 7302250 := by omega
      obtain ⟨j, hj, ej⟩ := m31 (xs (nI i).toNatClampNeg)
      rw [ej]
      have kk : ∀ (H : Heap) (locs : List Loc), LX s dC dI a0 ci am H locs → W p l e room_1 s m #[Value.ref b] below meth c H locs (40 + 18 * k + 18) (31693 + 3323 * k + 3323) (lw_Z below #[Value.ref b] s) (F0 m 1216 ls []) := fun H locs hX => by
        obtain ⟨y, ey⟩ : ∃ y : Int32, y = nI i + 7 := ⟨_, rfl⟩
        refine lv_iinc (v := y) (lv' := [(3, .int y), (0, .ref b), (1, .ref a0), (2, .ref (am 0))]) hx hb dL_law_1216 hl (k := 3) rfl (by rw [ey]; rfl) (by decide) rfl (fun ls hl => ?_)
        refine lv_goto (tgt := 18) hx hb dL_law_1219 (by decide) ?_
        rw [show (7 : Int32) = nI 7 from rfl, nI_add] at ey
        subst ey
        refine W.cs (cells' := 40 + 18 * (k + 1)) (slots' := 31693 + 3323 * (k + 1)) (by omega) (by omega) ?_
        exact ih (k + 1) (i + 7) H locs ls (by omega) (by omega) (by omega) hX (lv_sub hl [1, 2, 3, 0] rfl)
      have tin : ∀ (off : Int) (tgt : Nat), #[111, 175, 291, 395, 511, 627, 651, 715, 749, 773, 797, 831, 865, 919, 953, 967, 981, 995, 1029, 1053, 1087, 1131, 1145, 1159][j]? = some off → ((33 : Nat) : Int) + off = (tgt : Int) → j < 24 → W p l e room_1 s m #[Value.ref b] below meth c H locs (40 + 18 * k) (31693 + 3323 * k) (lw_Z below #[Value.ref b] s) (F0 m tgt ls []) → W p l e room_1 s m #[Value.ref b] below meth c H locs (40 + 18 * k) (31693 + 3323 * k) (lw_Z below #[Value.ref b] s) (F0 m 33 ls [.int (nI j)]) := fun off tgt ho ht h24 k9 => by
        have eI : (nI j).toInt = (j : Int) := nI_toInt (by omega)
        refine lv_tableIn (tgt := tgt) (off := off) hx hb dL_law_33 (by rw [eI]; omega) (by rw [eI]; omega) ?_ ht k9
        rw [eI, show ((j : Int) - 0).toNat = j by omega]
        exact ho
      rcases (show j = 0 ∨ j = 1 ∨ j = 2 ∨ j = 3 ∨ j = 4 ∨ j = 5 ∨ j = 6 ∨ j = 7 ∨ j = 8 ∨ j = 9 ∨ j = 10 ∨ j = 11 ∨ j = 12 ∨ j = 13 ∨ j = 14 ∨ j = 15 ∨ j = 16 ∨ j = 17 ∨ j = 18 ∨ j = 19 ∨ j = 20 ∨ j = 21 ∨ j = 22 ∨ j = 23 ∨ 24 ≤ j by omega) with rfl | rfl | rfl | rfl | rfl | rfl | rfl | rfl | rfl | rfl | rfl | rfl | rfl | rfl | rfl | rfl | rfl | rfl | rfl | rfl | rfl | rfl | rfl | rfl | q
      · exact tin 111 144 rfl (by decide) (by omega) (lc_once l hL C0 G0 hu hv hi hX hl kk)
      · exact tin 175 208 rfl (by decide) (by omega) (lc_often l hL C0 G0 hu hv hi hX hl kk)
      · exact tin 291 324 rfl (by decide) (by omega) (lc_loose l hL C0 G0 hu hv hi hX hl kk)
      · exact tin 395 428 rfl (by decide) (by omega) (lc_chained l hL C0 G0 hu hv hi hX hl kk)
      · exact tin 511 544 rfl (by decide) (by omega) (lc_resting l hL C0 G0 hu hv hi hX hl kk)
      · exact tin 627 660 rfl (by decide) (by omega) (lc_drop l hL C0 G0 hu hv hi hX hl kk)
      · exact tin 651 684 rfl (by decide) (by omega) (lc_shift l hL C0 G0 hu hv hi hX hl kk)
      · exact tin 715 748 rfl (by decide) (by omega) (lc_chain l hL C0 G0 hu hv hi hX hl kk)
      · exact tin 749 782 rfl (by decide) (by omega) (lc_rest l hL C0 G0 hu hv hi hX hl kk)
      · exact tin 773 806 rfl (by decide) (by omega) (lc_wake l hL C0 G0 hu hv hi hX hl kk)
      · exact tin 797 830 rfl (by decide) (by omega) (lc_about l hL C0 G0 hu hv hi hX hl kk)
      · exact tin 831 864 rfl (by decide) (by omega) (lc_isOf l hL C0 G0 hu hv hi hX hl kk)
      · exact tin 865 898 rfl (by decide) (by omega) (lc_go l hL C0 G0 hu hv hi hX hl kk)
      · exact tin 919 952 rfl (by decide) (by omega) (lc_went l hL C0 G0 hu hv hi hX hl kk)
      · exact tin 953 986 rfl (by decide) (by omega) (lc_next l hL C0 G0 hu hv hi hX hl kk)
      · exact tin 967 1000 rfl (by decide) (by omega) (lc_fewest l hL C0 G0 hu hv hi hX hl kk)
      · exact tin 981 1014 rfl (by decide) (by omega) (lc_settle l hL C0 G0 hu hv hi hX hl kk)
      · exact tin 995 1028 rfl (by decide) (by omega) (lc_lies l hL C0 G0 hu hv hi hX hl kk)
      · exact tin 1029 1062 rfl (by decide) (by omega) (lc_bits l hL C0 G0 hu hv hi hX hl kk)
      · exact tin 1053 1086 rfl (by decide) (by omega) (lc_many l hL C0 G0 hu hv hi hX hl kk)
      · exact tin 1087 1120 rfl (by decide) (by omega) (lc_in l hL C0 G0 hu hv hi hX hl kk)
      · exact tin 1131 1164 rfl (by decide) (by omega) (lc_now l hL C0 G0 hu hv hi hX hl kk)
      · exact tin 1145 1178 rfl (by decide) (by omega) (lc_undo l hL C0 G0 hu hv hi hX hl kk)
      · exact tin 1159 1192 rfl (by decide) (by omega) (lc_count l hL C0 G0 hu hv hi hX hl kk)
      · have eI : (nI j).toInt = (j : Int) := nI_toInt (by omega)
        refine lv_tableOut (tgt := 1216) hx hb dL_law_33 (Or.inr (by rw [eI]; omega)) (by decide) ?_
        refine W.widen (k := 40 + 18 * k + 18) (n := 31693 + 3323 * k + 3323) (by omega) (by omega) ?_
        exact kk H locs hX
